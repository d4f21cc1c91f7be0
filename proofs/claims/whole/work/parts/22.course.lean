def sQL (σ : zSt) (b : Nat) (x y : Int64) : zSt := uL (uL σ b 3 x) b 4 y
theorem sQL_3 {σ : zSt} {b : Nat} {x y z : Int64} : uL (sQL σ b x y) b 3 z = sQL σ b z y := by
  unfold sQL uL
  congr 1
  funext p q
  by_cases h1 : p = b ∧ q = 3
  · simp [h1]
  · by_cases h2 : p = b ∧ q = 4
    · simp [h2]
    · simp [h1, h2]
theorem sQL_4 {σ : zSt} {b : Nat} {x y z : Int64} : uL (sQL σ b x y) b 4 z = sQL σ b x z := by
  unfold sQL
  rw [uL_uL]
theorem sQL_g3 {σ : zSt} {b : Nat} {x y : Int64} : (sQL σ b x y).2 b 3 = x := by
  unfold sQL
  rw [uL_at, if_neg (by decide), uL_get]
theorem sQL_g4 {σ : zSt} {b : Nat} {x y : Int64} : (sQL σ b x y).2 b 4 = y := uL_get
theorem sQL_self {σ : zSt} {b : Nat} {x y : Int64} (h3 : σ.2 b 3 = x) (h4 : σ.2 b 4 = y) : sQL σ b x y = σ := by
  unfold sQL
  rw [uL_self h3, uL_self h4]
theorem dl_Be {C : zCf} {D : zDy} {e : Int} : dl (dBe C e D) = dl D := by
  unfold dBe
  split
  · rfl
  · split <;> rfl
theorem dl_BeN {C : zCf} {D : zDy} {t : Int} : ∀ m : Nat, dl (dBeN C t m D) = dl D
  | 0 => rfl
  | m + 1 => by
    unfold dBeN
    split
    · rw [dl_Be, dl_BeN m]
    · exact dl_BeN m
theorem dl_CoN {C : zCf} {D : zDy} {t : Int} : ∀ m : Nat, dl (dCoN C t m D) = dl D
  | 0 => rfl
  | m + 1 => by
    unfold dCoN
    split
    · exact dl_CoN m
    · exact dl_CoN m
theorem zPl_u3 {σ : zSt} {b : Nat} {C : zCf} (h : zPl σ b C) : zCv C := h.2.2.2.2.2.2.2.2
set_option maxHeartbeats 4000000 in
set_option maxRecDepth 100000 in
/-- doEvents -/
theorem c_C_doEvents {b a : Nat} {C : zCf} {D : zDy} {t v : Int} {r : Nat} {σ : zSt} {post : Option VV → zSt → Prop} (hz : zPz a) (hpl : zPl σ a C) (hJ : zJ C D) (hq : zRq r D) (hr : σ.2 b 3 = lN r) (hv : zr v) (hvb : ∀ e : Int, 0 ≤ e → e < cE C → zbt v e = decide (cMi C e = t ∧ cOn C e = true)) (hp : ∀ r' : Nat, zRq r' (dBeN C t (cE C).toNat D) → post none (uL σ b 3 (lN r'))) : Mc 1 MX0_doEvents [vR 0 b, vR 1 a, vZ v] σ post := by
  have hC := zPl_u3 hpl
  have hE := hC.2.1
  show V 1 MX0_doEvents 0 [some (vR 0 b), some (vR 1 a), some (vZ v), none, none, none] [] σ post
  refine V_run kX0_doEvents 1 [] (show V 1 MX0_doEvents 1 [some (vR 0 b), some (vR 1 a), some (vZ v), none, none, none] [vZ v] σ post from ?_)
  by_cases h0v : v = 0
  · skip
    refine V_run kX0_doEvents 1 [0] (show (zr v ∧ v = 0) ∧ V 1 MX0_doEvents 4 [some (vR 0 b), some (vR 1 a), some (vZ v), none, none, none] [] σ post from ⟨(by omega), ?_⟩)
    have h9 := hp r (by rw [dBeN_none _ (fun e he q => by have h8 := hvb e (by omega) (by omega); rw [h0v, zbt_0, decide_eq_true q] at h8; cases h8)]; exact hq)
    rw [uL_self hr] at h9
    exact V_vret kX0_doEvents rfl rfl (h9)
  · skip
    refine V_run kX0_doEvents 3 [1] (show (zr v ∧ ¬ v = 0) ∧ V 1 MX0_doEvents 7 [some (vR 0 b), some (vR 1 a), some (vZ v), some (vZ 0), none, none] [] σ post from ⟨(by omega), ?_⟩)
    have loop : ∀ (m e : Nat), e + m = (cE C).toNat → ∀ r' : Nat, zRq r' (dBeN C t e D) → V 1 MX0_doEvents 7 [some (vR 0 b), some (vR 1 a), some (vZ v), some (vZ (e : Int)), none, none] [] (uL σ b 3 (lN r')) post := by
      intro m
      induction m with
      | zero =>
        intro e he r' hr'
        refine V_run kX0_doEvents 2 [] (show V 1 MX0_doEvents 9 [some (vR 0 b), some (vR 1 a), some (vZ v), some (vZ (e : Int)), none, none] [vR 1 a, vZ (e : Int)] (uL σ b 3 (lN r')) post from ?_)
        refine V_callV (a := []) (rest := [vZ (e : Int)]) kX0_doEvents rfl oX2_events iX2_events lk_0_62 rfl rfl rfl (Nat.le_of_ble_eq_true rfl) (Nat.le_of_ble_eq_true rfl) (Nat.le_of_ble_eq_true rfl) (post' := fun zv zσ => V 1 MX0_doEvents 12 [some (vR 0 b), some (vR 1 a), some (vZ v), some (vZ (e : Int)), none, none] (zv.toList ++ [vZ (e : Int)]) zσ post) (e_P_events hpl.2.1 ((show V 1 MX0_doEvents 12 [some (vR 0 b), some (vR 1 a), some (vZ v), some (vZ (e : Int)), none, none] [vZ (cE C), vZ (e : Int)] (uL σ b 3 (lN r')) post from ?_))) (fun _ _ h => h)
        refine V_run kX0_doEvents 1 [1] (show (zr (e : Int) ∧ zr (cE C) ∧ (cE C) ≤ (e : Int)) ∧ V 1 MX0_doEvents 126 [some (vR 0 b), some (vR 1 a), some (vZ v), some (vZ (e : Int)), none, none] [] (uL σ b 3 (lN r')) post from ⟨(by omega), ?_⟩)
        have hee : e = (cE C).toNat := by omega
        subst hee
        exact V_vret kX0_doEvents rfl rfl (hp r' hr')
      | succ m ih =>
        intro e he r' hr'
        have he0 : (0 : Int) ≤ (e : Int) := by omega
        have he1 : (e : Int) < cE C := by omega
        have hEv := hC.2.2.2.2 e he0 he1
        have hpe := hpl.2.2.2.2.2.1 e he0 he1
        have hJe := zJ_BeN (t := t) hC hJ e (by omega)
        have hvbe := hvb e he0 he1
        obtain ⟨De, hDe⟩ : ∃ De, De = dBeN C t e D := ⟨_, rfl⟩
        rw [← hDe] at hJe hr'
        have hnx : dBeN C t (e + 1) D = if cMi C e = t ∧ cOn C e = true then dBe C e De else De := by rw [hDe]; rfl
        obtain ⟨f, hf⟩ : ∃ f, f = if cPe C e < cn C ∧ ds De (cPe C e) = 1 then dPos De (cPe C e) else -1 := ⟨_, rfl⟩
        refine V_run kX0_doEvents 2 [] (show V 1 MX0_doEvents 9 [some (vR 0 b), some (vR 1 a), some (vZ v), some (vZ (e : Int)), none, none] [vR 1 a, vZ (e : Int)] (uL σ b 3 (lN r')) post from ?_)
        refine V_callV (a := []) (rest := [vZ (e : Int)]) kX0_doEvents rfl oX2_events iX2_events lk_0_62 rfl rfl rfl (Nat.le_of_ble_eq_true rfl) (Nat.le_of_ble_eq_true rfl) (Nat.le_of_ble_eq_true rfl) (post' := fun zv zσ => V 1 MX0_doEvents 12 [some (vR 0 b), some (vR 1 a), some (vZ v), some (vZ (e : Int)), none, none] (zv.toList ++ [vZ (e : Int)]) zσ post) (e_P_events hpl.2.1 ((show V 1 MX0_doEvents 12 [some (vR 0 b), some (vR 1 a), some (vZ v), some (vZ (e : Int)), none, none] [vZ (cE C), vZ (e : Int)] (uL σ b 3 (lN r')) post from ?_))) (fun _ _ h => h)
        refine V_run kX0_doEvents 3 [0] (show (zr (e : Int) ∧ zr (cE C) ∧ (e : Int) < (cE C)) ∧ V 1 MX0_doEvents 17 [some (vR 0 b), some (vR 1 a), some (vZ v), some (vZ (e : Int)), none, none] [vZ (e : Int), vR 1 a] (uL σ b 3 (lN r')) post from ⟨(by omega), ?_⟩)
        refine V_callV (a := [vZ (e : Int)]) (rest := []) kX0_doEvents rfl oX2_personOf iX2_personOf lk_0_65 rfl rfl rfl (Nat.le_of_ble_eq_true rfl) (Nat.le_of_ble_eq_true rfl) (Nat.le_of_ble_eq_true rfl) (post' := fun zv zσ => V 1 MX0_doEvents 20 [some (vR 0 b), some (vR 1 a), some (vZ v), some (vZ (e : Int)), none, none] (zv.toList ++ []) zσ post) (e_P_personOf hz he0 (by omega) hpe.2.2 ((show V 1 MX0_doEvents 20 [some (vR 0 b), some (vR 1 a), some (vZ v), some (vZ (e : Int)), none, none] [vZ (cPe C (e : Int))] (uL σ b 3 (lN r')) post from ?_))) (fun _ _ h => h)
        refine V_run kX0_doEvents 6 [] (show V 1 MX0_doEvents 30 [some (vR 0 b), some (vR 1 a), some (vZ v), some (vZ (e : Int)), some (vZ ((cPe C (e : Int)) + 1)), none] [vZ ((cPe C (e : Int)) + 1), vL ((uL σ b 3 (lN r')).2 b 3)] (uL σ b 3 (lN r')) post from ?_)
        rw [uL_get]
        show V 1 MX0_doEvents 30 [some (vR 0 b), some (vR 1 a), some (vZ v), some (vZ (e : Int)), some (vZ ((cPe C (e : Int)) + 1)), none] [vZ ((cPe C (e : Int)) + 1), vL (lN r')] (uL σ b 3 (lN r')) post
        refine V_callS (a := [vL (lN r'), vZ ((cPe C (e : Int)) + 1)]) (rest := []) kX0_doEvents rfl oX1_find iX1_find lk_0_68 rfl rfl (Nat.le_of_ble_eq_true rfl) (Nat.le_of_ble_eq_true rfl) (Nat.le_of_ble_eq_true rfl) (post' := fun zv zσ => V 1 MX0_doEvents 33 [some (vR 0 b), some (vR 1 a), some (vZ v), some (vZ (e : Int)), some (vZ ((cPe C (e : Int)) + 1)), none] (zv.toList ++ []) zσ post) (c_find hr'.1 (by omega) (by omega) (zRq_find hC.1.2 hJe hr' (by omega) (by omega) hf) ((show V 1 MX0_doEvents 33 [some (vR 0 b), some (vR 1 a), some (vZ v), some (vZ (e : Int)), some (vZ ((cPe C (e : Int)) + 1)), none] [vZ f] (uL σ b 3 (lN r')) post from ?_))) (fun _ _ h => h)
        refine V_run kX0_doEvents 6 [] (show V 1 MX0_doEvents 40 [some (vR 0 b), some (vR 1 a), some (vZ v), some (vZ (e : Int)), some (vZ ((cPe C (e : Int)) + 1)), some (vZ f)] [vZ (zand (zshr v (e : Int)) 1)] (uL σ b 3 (lN r')) post from ?_)
        refine V_top (zbt_test he0 (by omega)) ?_
        by_cases hb : zbt v (e : Int) = true
        · skip
          have hcond : cMi C e = t ∧ cOn C e = true := of_decide_eq_true (hvbe.symm.trans hb)
          rw [if_pos hcond] at hnx
          rw [if_pos hb]
          show V 1 MX0_doEvents 40 [some (vR 0 b), some (vR 1 a), some (vZ v), some (vZ (e : Int)), some (vZ ((cPe C (e : Int)) + 1)), some (vZ f)] [vZ 1] (uL σ b 3 (lN r')) post
          by_cases hk : cPe C e < cn C ∧ ds De (cPe C e) = 1
          · skip
            rw [if_pos hk] at hf
            have hno : ¬ (cn C ≤ cPe C e ∨ ds De (cPe C e) ≠ 1) := fun q => by have h1 := hk.1; have h2 := hk.2; rcases q with q | q; omega; exact q h2
            obtain ⟨p0, p1, p2⟩ := dPos_in hJe (by omega) hk.1 hk.2
            rw [← hf] at p0 p1 p2
            have hrem : ∀ s l d, zRq (rRem r' f) (dn De - 1, qRem (dq De) f, s, l, d) := fun s l d => zRq_rem hr' hJe.1.2 p0 p1
            have hne : f ≠ -1 := by omega
            have hnn := hJe.1
            refine V_run kX0_doEvents 8 [0, 1] (show (zr 1 ∧ ¬ 1 = 0) ∧ (zr f ∧ zr (-1) ∧ ¬ f = (-1)) ∧ V 1 MX0_doEvents 59 [some (vR 0 b), some (vR 1 a), some (vZ v), some (vZ (e : Int)), some (vZ ((cPe C (e : Int)) + 1)), some (vZ f)] [vZ f, vL ((uL σ b 3 (lN r')).2 b 3), vR 0 b] (uL σ b 3 (lN r')) post from ⟨(by omega), (by omega), ?_⟩)
            rw [uL_get]
            show V 1 MX0_doEvents 59 [some (vR 0 b), some (vR 1 a), some (vZ v), some (vZ (e : Int)), some (vZ ((cPe C (e : Int)) + 1)), some (vZ f)] [vZ f, vL (lN r'), vR 0 b] (uL σ b 3 (lN r')) post
            refine V_callS (a := [vL (lN r'), vZ f]) (rest := [vR 0 b]) kX0_doEvents rfl oX1_removed iX1_removed lk_0_74 rfl rfl (Nat.le_of_ble_eq_true rfl) (Nat.le_of_ble_eq_true rfl) (Nat.le_of_ble_eq_true rfl) (post' := fun zv zσ => V 1 MX0_doEvents 62 [some (vR 0 b), some (vR 1 a), some (vZ v), some (vZ (e : Int)), some (vZ ((cPe C (e : Int)) + 1)), some (vZ f)] (zv.toList ++ [vR 0 b]) zσ post) (c_removed hr'.1 p0 (by omega) ((show V 1 MX0_doEvents 62 [some (vR 0 b), some (vR 1 a), some (vZ v), some (vZ (e : Int)), some (vZ ((cPe C (e : Int)) + 1)), some (vZ f)] [vL (lN (rRem r' f)), vR 0 b] (uL σ b 3 (lN r')) post from ?_))) (fun _ _ h => h)
            refine V_run kX0_doEvents 3 [] (show V 1 MX0_doEvents 67 [some (vR 0 b), some (vR 1 a), some (vZ v), some (vZ (e : Int)), some (vZ ((cPe C (e : Int)) + 1)), some (vZ f)] [vZ (e : Int), vR 1 a] (uL (uL σ b 3 (lN r')) b 3 (lN (rRem r' f))) post from ?_)
            rw [uL_uL]
            show V 1 MX0_doEvents 67 [some (vR 0 b), some (vR 1 a), some (vZ v), some (vZ (e : Int)), some (vZ ((cPe C (e : Int)) + 1)), some (vZ f)] [vZ (e : Int), vR 1 a] (uL σ b 3 (lN (rRem r' f))) post
            refine V_callV (a := [vZ (e : Int)]) (rest := []) kX0_doEvents rfl oX2_kindOf iX2_kindOf lk_0_78 rfl rfl rfl (Nat.le_of_ble_eq_true rfl) (Nat.le_of_ble_eq_true rfl) (Nat.le_of_ble_eq_true rfl) (post' := fun zv zσ => V 1 MX0_doEvents 70 [some (vR 0 b), some (vR 1 a), some (vZ v), some (vZ (e : Int)), some (vZ ((cPe C (e : Int)) + 1)), some (vZ f)] (zv.toList ++ []) zσ post) (e_P_kindOf hz he0 (by omega) hpe.1 ((show V 1 MX0_doEvents 70 [some (vR 0 b), some (vR 1 a), some (vZ v), some (vZ (e : Int)), some (vZ ((cPe C (e : Int)) + 1)), some (vZ f)] [vZ (cKi C (e : Int))] (uL σ b 3 (lN (rRem r' f))) post from ?_))) (fun _ _ h => h)
            by_cases hk1 : cKi C e = 1
            · skip
              refine V_run kX0_doEvents 7 [0] (show (zr (cKi C (e : Int)) ∧ zr 1 ∧ (cKi C (e : Int)) = 1) ∧ V 1 MX0_doEvents 82 [some (vR 0 b), some (vR 1 a), some (vZ v), some (vZ (e : Int)), some (vZ ((cPe C (e : Int)) + 1)), some (vZ f)] [vZ ((cPe C (e : Int)) + 1), vZ 0, vL ((uL σ b 3 (lN (rRem r' f))).2 b 3), vR 0 b] (uL σ b 3 (lN (rRem r' f))) post from ⟨(by omega), ?_⟩)
              rw [uL_get]
              show V 1 MX0_doEvents 82 [some (vR 0 b), some (vR 1 a), some (vZ v), some (vZ (e : Int)), some (vZ ((cPe C (e : Int)) + 1)), some (vZ f)] [vZ ((cPe C (e : Int)) + 1), vZ 0, vL (lN (rRem r' f)), vR 0 b] (uL σ b 3 (lN (rRem r' f))) post
              have hins := zRq_ins (s := ds De) (l := dl De) (d := dd De) (p := 0) (hrem (ds De) (dl De) (dd De)) (by show dn De - 1 ≤ 11; omega) (by omega) (by show 0 ≤ dn De - 1; omega) (by omega : 0 ≤ cPe C e) (by omega)
              have hr11 := zRq_11 (hrem (ds De) (dl De) (dd De)) (by show dn De - 1 ≤ 11; omega)
              refine V_callS (a := [vL (lN (rRem r' f)), vZ 0, vZ ((cPe C (e : Int)) + 1)]) (rest := [vR 0 b]) kX0_doEvents rfl oX1_inserted iX1_inserted lk_0_81 rfl rfl (Nat.le_of_ble_eq_true rfl) (Nat.le_of_ble_eq_true rfl) (Nat.le_of_ble_eq_true rfl) (post' := fun zv zσ => V 1 MX0_doEvents 85 [some (vR 0 b), some (vR 1 a), some (vZ v), some (vZ (e : Int)), some (vZ ((cPe C (e : Int)) + 1)), some (vZ f)] (zv.toList ++ [vR 0 b]) zσ post) (c_inserted hr11 (by omega) (by omega) (by omega) (by omega) ((show V 1 MX0_doEvents 85 [some (vR 0 b), some (vR 1 a), some (vZ v), some (vZ (e : Int)), some (vZ ((cPe C (e : Int)) + 1)), some (vZ f)] [vL (lN (rIns (rRem r' f) 0 (cPe C (e : Int) + 1))), vR 0 b] (uL σ b 3 (lN (rRem r' f))) post from ?_))) (fun _ _ h => h)
              refine V_run kX0_doEvents 2 [] (show V 1 MX0_doEvents 120 [some (vR 0 b), some (vR 1 a), some (vZ v), some (vZ (e : Int)), some (vZ ((cPe C (e : Int)) + 1)), some (vZ f)] [] (uL (uL σ b 3 (lN (rRem r' f))) b 3 (lN (rIns (rRem r' f) 0 (cPe C (e : Int) + 1)))) post from ?_)
              rw [uL_uL]
              show V 1 MX0_doEvents 120 [some (vR 0 b), some (vR 1 a), some (vZ v), some (vZ (e : Int)), some (vZ ((cPe C (e : Int)) + 1)), some (vZ f)] [] (uL σ b 3 (lN (rIns (rRem r' f) 0 (cPe C (e : Int) + 1)))) post
              refine V_run kX0_doEvents 2 [] (show V 1 MX0_doEvents 7 [some (vR 0 b), some (vR 1 a), some (vZ v), some (vZ ((e : Int) + 1)), some (vZ ((cPe C (e : Int)) + 1)), some (vZ f)] [] (uL σ b 3 (lN (rIns (rRem r' f) 0 (cPe C (e : Int) + 1)))) post from ?_)
              refine V_drop (L := [some (vR 0 b), some (vR 1 a), some (vZ v), some (vZ ((e : Int) + 1)), none, none]) ⟨rfl, ⟨rfl, ⟨rfl, ⟨rfl, trivial⟩⟩⟩⟩ ?_
              exact ih (e + 1) (by omega) (rIns (rRem r' f) 0 (cPe C (e : Int) + 1)) (by rw [hnx]; unfold dBe; rw [if_neg hno, if_neg (by omega), if_pos hk1, ← hf]; rw [show ∀ (q : Int → Int) (s l d : Int → Int), ((dn De - 1, q, s, l, d) : zDy).1 + 1 = dn De from fun _ _ _ _ => Int.sub_add_cancel _ _] at hins; exact hins)
            · skip
              refine V_run kX0_doEvents 4 [1] (show (zr (cKi C (e : Int)) ∧ zr 1 ∧ ¬ (cKi C (e : Int)) = 1) ∧ V 1 MX0_doEvents 93 [some (vR 0 b), some (vR 1 a), some (vZ v), some (vZ (e : Int)), some (vZ ((cPe C (e : Int)) + 1)), some (vZ f)] [vZ (e : Int), vR 1 a] (uL σ b 3 (lN (rRem r' f))) post from ⟨(by omega), ?_⟩)
              refine V_callV (a := [vZ (e : Int)]) (rest := []) kX0_doEvents rfl oX2_kindOf iX2_kindOf lk_0_78 rfl rfl rfl (Nat.le_of_ble_eq_true rfl) (Nat.le_of_ble_eq_true rfl) (Nat.le_of_ble_eq_true rfl) (post' := fun zv zσ => V 1 MX0_doEvents 96 [some (vR 0 b), some (vR 1 a), some (vZ v), some (vZ (e : Int)), some (vZ ((cPe C (e : Int)) + 1)), some (vZ f)] (zv.toList ++ []) zσ post) (e_P_kindOf hz he0 (by omega) hpe.1 ((show V 1 MX0_doEvents 96 [some (vR 0 b), some (vR 1 a), some (vZ v), some (vZ (e : Int)), some (vZ ((cPe C (e : Int)) + 1)), some (vZ f)] [vZ (cKi C (e : Int))] (uL σ b 3 (lN (rRem r' f))) post from ?_))) (fun _ _ h => h)
              by_cases hk2 : cKi C e = 2
              · skip
                refine V_run kX0_doEvents 7 [0] (show (zr (cKi C (e : Int)) ∧ zr 2 ∧ (cKi C (e : Int)) = 2) ∧ V 1 MX0_doEvents 109 [some (vR 0 b), some (vR 1 a), some (vZ v), some (vZ (e : Int)), some (vZ ((cPe C (e : Int)) + 1)), some (vZ f)] [vL ((uL σ b 3 (lN (rRem r' f))).2 b 3), vL ((uL σ b 3 (lN (rRem r' f))).2 b 3), vR 0 b] (uL σ b 3 (lN (rRem r' f))) post from ⟨(by omega), ?_⟩)
                rw [uL_get]
                show V 1 MX0_doEvents 109 [some (vR 0 b), some (vR 1 a), some (vZ v), some (vZ (e : Int)), some (vZ ((cPe C (e : Int)) + 1)), some (vZ f)] [vL (lN (rRem r' f)), vL (lN (rRem r' f)), vR 0 b] (uL σ b 3 (lN (rRem r' f))) post
                have hlen : (∀ j : Int, 0 ≤ j → j < dn De - 1 → dgt (rRem r' f) j ≠ 0) ∧ (dn De - 1 < 12 → dgt (rRem r' f) (dn De - 1) = 0) := by
                  have h7 := hrem (ds De) (dl De) (dd De)
                  refine ⟨fun j a b => ?_, fun a => ?_⟩
                  · rw [h7.2 j a (by omega), if_pos (by exact b)]
                    show qRem (dq De) f j + 1 ≠ 0
                    unfold qRem
                    split
                    · have := (hJe.2.1 j a (by omega)).1; omega
                    · have := (hJe.2.1 (j + 1) (by omega) (by omega)).1; omega
                  · rw [h7.2 _ (by omega) a, if_neg (by show ¬ dn De - 1 < dn De - 1; omega)]
                refine V_callS (a := [vL (lN (rRem r' f))]) (rest := [vL (lN (rRem r' f)), vR 0 b]) kX0_doEvents rfl oX1_length iX1_length lk_0_85 rfl rfl (Nat.le_of_ble_eq_true rfl) (Nat.le_of_ble_eq_true rfl) (Nat.le_of_ble_eq_true rfl) (post' := fun zv zσ => V 1 MX0_doEvents 112 [some (vR 0 b), some (vR 1 a), some (vZ v), some (vZ (e : Int)), some (vZ ((cPe C (e : Int)) + 1)), some (vZ f)] (zv.toList ++ [vL (lN (rRem r' f)), vR 0 b]) zσ post) (c_length (hrem (ds De) (dl De) (dd De)).1 (by omega) (by omega) hlen.1 hlen.2 ((show V 1 MX0_doEvents 112 [some (vR 0 b), some (vR 1 a), some (vZ v), some (vZ (e : Int)), some (vZ ((cPe C (e : Int)) + 1)), some (vZ f)] [vZ (dn De - 1), vL (lN (rRem r' f)), vR 0 b] (uL σ b 3 (lN (rRem r' f))) post from ?_))) (fun _ _ h => h)
                refine V_run kX0_doEvents 1 [] (show V 1 MX0_doEvents 114 [some (vR 0 b), some (vR 1 a), some (vZ v), some (vZ (e : Int)), some (vZ ((cPe C (e : Int)) + 1)), some (vZ f)] [vZ ((cPe C (e : Int)) + 1), vZ (dn De - 1), vL (lN (rRem r' f)), vR 0 b] (uL σ b 3 (lN (rRem r' f))) post from ?_)
                have hins := zRq_ins (s := ds De) (l := dl De) (d := dd De) (p := dn De - 1) (hrem (ds De) (dl De) (dd De)) (by show dn De - 1 ≤ 11; omega) (by omega) (by show dn De - 1 ≤ dn De - 1; omega) (by omega : 0 ≤ cPe C e) (by omega)
                have hr11 := zRq_11 (hrem (ds De) (dl De) (dd De)) (by show dn De - 1 ≤ 11; omega)
                refine V_callS (a := [vL (lN (rRem r' f)), vZ (dn De - 1), vZ ((cPe C (e : Int)) + 1)]) (rest := [vR 0 b]) kX0_doEvents rfl oX1_inserted iX1_inserted lk_0_81 rfl rfl (Nat.le_of_ble_eq_true rfl) (Nat.le_of_ble_eq_true rfl) (Nat.le_of_ble_eq_true rfl) (post' := fun zv zσ => V 1 MX0_doEvents 117 [some (vR 0 b), some (vR 1 a), some (vZ v), some (vZ (e : Int)), some (vZ ((cPe C (e : Int)) + 1)), some (vZ f)] (zv.toList ++ [vR 0 b]) zσ post) (c_inserted hr11 (by omega) (by omega) (by omega) (by omega) ((show V 1 MX0_doEvents 117 [some (vR 0 b), some (vR 1 a), some (vZ v), some (vZ (e : Int)), some (vZ ((cPe C (e : Int)) + 1)), some (vZ f)] [vL (lN (rIns (rRem r' f) (dn De - 1) (cPe C (e : Int) + 1))), vR 0 b] (uL σ b 3 (lN (rRem r' f))) post from ?_))) (fun _ _ h => h)
                refine V_run kX0_doEvents 1 [] (show V 1 MX0_doEvents 120 [some (vR 0 b), some (vR 1 a), some (vZ v), some (vZ (e : Int)), some (vZ ((cPe C (e : Int)) + 1)), some (vZ f)] [] (uL (uL σ b 3 (lN (rRem r' f))) b 3 (lN (rIns (rRem r' f) (dn De - 1) (cPe C (e : Int) + 1)))) post from ?_)
                rw [uL_uL]
                show V 1 MX0_doEvents 120 [some (vR 0 b), some (vR 1 a), some (vZ v), some (vZ (e : Int)), some (vZ ((cPe C (e : Int)) + 1)), some (vZ f)] [] (uL σ b 3 (lN (rIns (rRem r' f) (dn De - 1) (cPe C (e : Int) + 1)))) post
                refine V_run kX0_doEvents 2 [] (show V 1 MX0_doEvents 7 [some (vR 0 b), some (vR 1 a), some (vZ v), some (vZ ((e : Int) + 1)), some (vZ ((cPe C (e : Int)) + 1)), some (vZ f)] [] (uL σ b 3 (lN (rIns (rRem r' f) (dn De - 1) (cPe C (e : Int) + 1)))) post from ?_)
                refine V_drop (L := [some (vR 0 b), some (vR 1 a), some (vZ v), some (vZ ((e : Int) + 1)), none, none]) ⟨rfl, ⟨rfl, ⟨rfl, ⟨rfl, trivial⟩⟩⟩⟩ ?_
                exact ih (e + 1) (by omega) (rIns (rRem r' f) (dn De - 1) (cPe C (e : Int) + 1)) (by rw [hnx]; unfold dBe; rw [if_neg hno, if_neg (by omega), if_neg hk1, ← hf]; rw [show ∀ (q : Int → Int) (s l d : Int → Int), ((dn De - 1, q, s, l, d) : zDy).1 + 1 = dn De from fun _ _ _ _ => Int.sub_add_cancel _ _] at hins; exact hins)
              · skip
                refine V_run kX0_doEvents 2 [1] (show (zr (cKi C (e : Int)) ∧ zr 2 ∧ ¬ (cKi C (e : Int)) = 2) ∧ V 1 MX0_doEvents 120 [some (vR 0 b), some (vR 1 a), some (vZ v), some (vZ (e : Int)), some (vZ ((cPe C (e : Int)) + 1)), some (vZ f)] [] (uL σ b 3 (lN (rRem r' f))) post from ⟨(by omega), ?_⟩)
                refine V_run kX0_doEvents 2 [] (show V 1 MX0_doEvents 7 [some (vR 0 b), some (vR 1 a), some (vZ v), some (vZ ((e : Int) + 1)), some (vZ ((cPe C (e : Int)) + 1)), some (vZ f)] [] (uL σ b 3 (lN (rRem r' f))) post from ?_)
                refine V_drop (L := [some (vR 0 b), some (vR 1 a), some (vZ v), some (vZ ((e : Int) + 1)), none, none]) ⟨rfl, ⟨rfl, ⟨rfl, ⟨rfl, trivial⟩⟩⟩⟩ ?_
                exact ih (e + 1) (by omega) (rRem r' f) (by rw [hnx]; unfold dBe; rw [if_neg hno, if_pos (by omega), ← hf]; exact hrem _ _ _)
          · skip
            rw [if_neg hk] at hf
            refine V_run kX0_doEvents 5 [0, 0] (show (zr 1 ∧ ¬ 1 = 0) ∧ (zr f ∧ zr (-1) ∧ f = (-1)) ∧ V 1 MX0_doEvents 120 [some (vR 0 b), some (vR 1 a), some (vZ v), some (vZ (e : Int)), some (vZ ((cPe C (e : Int)) + 1)), some (vZ f)] [] (uL σ b 3 (lN r')) post from ⟨(by omega), (by omega), ?_⟩)
            refine V_run kX0_doEvents 2 [] (show V 1 MX0_doEvents 7 [some (vR 0 b), some (vR 1 a), some (vZ v), some (vZ ((e : Int) + 1)), some (vZ ((cPe C (e : Int)) + 1)), some (vZ f)] [] (uL σ b 3 (lN r')) post from ?_)
            refine V_drop (L := [some (vR 0 b), some (vR 1 a), some (vZ v), some (vZ ((e : Int) + 1)), none, none]) ⟨rfl, ⟨rfl, ⟨rfl, ⟨rfl, trivial⟩⟩⟩⟩ ?_
            exact ih (e + 1) (by omega) (r') (by rw [hnx]; unfold dBe; rw [if_pos (by rcases Int.lt_or_le (cPe C e) (cn C) with q | q; exact Or.inr (fun z => hk ⟨q, z⟩); exact Or.inl q)]; exact hr')
        · skip
          have hcond : ¬ (cMi C e = t ∧ cOn C e = true) := fun q => hb (by rw [hvbe]; exact decide_eq_true q)
          rw [if_neg hcond] at hnx
          rw [if_neg hb]
          show V 1 MX0_doEvents 40 [some (vR 0 b), some (vR 1 a), some (vZ v), some (vZ (e : Int)), some (vZ ((cPe C (e : Int)) + 1)), some (vZ f)] [vZ 0] (uL σ b 3 (lN r')) post
          refine V_run kX0_doEvents 1 [1] (show (zr 0 ∧ 0 = 0) ∧ V 1 MX0_doEvents 120 [some (vR 0 b), some (vR 1 a), some (vZ v), some (vZ (e : Int)), some (vZ ((cPe C (e : Int)) + 1)), some (vZ f)] [] (uL σ b 3 (lN r')) post from ⟨(by omega), ?_⟩)
          refine V_run kX0_doEvents 2 [] (show V 1 MX0_doEvents 7 [some (vR 0 b), some (vR 1 a), some (vZ v), some (vZ ((e : Int) + 1)), some (vZ ((cPe C (e : Int)) + 1)), some (vZ f)] [] (uL σ b 3 (lN r')) post from ?_)
          refine V_drop (L := [some (vR 0 b), some (vR 1 a), some (vZ v), some (vZ ((e : Int) + 1)), none, none]) ⟨rfl, ⟨rfl, ⟨rfl, ⟨rfl, trivial⟩⟩⟩⟩ ?_
          exact ih (e + 1) (by omega) (r') (by rw [hnx]; exact hr')
    have h1 := loop (cE C).toNat 0 (by omega) r hq
    rw [uL_self hr] at h1
    exact h1
set_option maxHeartbeats 4000000 in
set_option maxRecDepth 100000 in
/-- placeToJoin -/
theorem c_C_place {o n : Int} {σ : zSt} {post : Option VV → zSt → Prop} (ho0 : 0 ≤ o) (ho : o ≤ 2) (h0 : 0 ≤ n) (h : n ≤ 12) (hp : post (some (vZ (if o = 0 then n / 2 else if o = 1 then n / 3 else n))) σ) : Mc 0 MX0_placeToJoin [vZ o, vZ n] σ post := by
  show V 0 MX0_placeToJoin 0 [some (vZ o), some (vZ n)] [] σ post
  refine V_run kX0_placeToJoin 2 [] (show V 0 MX0_placeToJoin 2 [some (vZ o), some (vZ n)] [vZ 2, vZ o] σ post from ?_)
  by_cases h1 : o = 2
  · skip
    refine V_run kX0_placeToJoin 2 [0] (show (zr o ∧ zr 2 ∧ o = 2) ∧ V 0 MX0_placeToJoin 6 [some (vZ o), some (vZ n)] [vZ n] σ post from ⟨(by omega), ?_⟩)
    exact V_iret kX0_placeToJoin rfl rfl (z_eqI (by (repeat' split) <;> omega) hp)
  · skip
    refine V_run kX0_placeToJoin 3 [1] (show (zr o ∧ zr 2 ∧ ¬ o = 2) ∧ V 0 MX0_placeToJoin 9 [some (vZ o), some (vZ n)] [vZ 1, vZ o] σ post from ⟨(by omega), ?_⟩)
    by_cases h2 : o = 1
    · skip
      refine V_run kX0_placeToJoin 5 [0] (show (zr o ∧ zr 1 ∧ o = 1) ∧ (0 ≤ n ∧ n < 2147483648 ∧ 0 < 3 ∧ 3 < 2147483648) ∧ V 0 MX0_placeToJoin 21 [some (vZ o), some (vZ n)] [vZ (n / 3)] σ post from ⟨(by omega), (by omega), ?_⟩)
      exact V_iret kX0_placeToJoin rfl rfl (z_eqI (by (repeat' split) <;> omega) hp)
    · skip
      refine V_run kX0_placeToJoin 4 [1] (show (zr o ∧ zr 1 ∧ ¬ o = 1) ∧ (0 ≤ n ∧ n < 2147483648 ∧ 0 < 2 ∧ 2 < 2147483648) ∧ V 0 MX0_placeToJoin 21 [some (vZ o), some (vZ n)] [vZ (n / 2)] σ post from ⟨(by omega), (by omega), ?_⟩)
      exact V_iret kX0_placeToJoin rfl rfl (z_eqI (by (repeat' split) <;> omega) hp)
set_option maxHeartbeats 4000000 in
set_option maxRecDepth 100000 in
/-- letIn -/
theorem c_C_letIn {b a : Nat} {C : zCf} {D : zDy} {t v : Int} {r : Nat} {σ : zSt} {post : Option VV → zSt → Prop} (hz : zPz a) (hpl : zPl σ a C) (hpe : σ.1 b 2 = cn C) (hJ : zJ C D) (hc : zJc C t 0 D) (hq : zRq r D) (hr : σ.2 b 3 = lN r) (hv : zr v) (hvb : ∀ e : Int, 0 ≤ e → e < cn C → zbt v e = decide (cCm C e = t)) (hp : ∀ r' : Nat, zRq r' (dCoN C t (cn C).toNat D) → post none (uL σ b 3 (lN r'))) : Mc 1 MX0_letIn [vR 0 b, vR 1 a, vZ v] σ post := by
  have hC := zPl_u3 hpl
  have hn := hC.1
  show V 1 MX0_letIn 0 [some (vR 0 b), some (vR 1 a), some (vZ v), none, none] [] σ post
  refine V_run kX0_letIn 1 [] (show V 1 MX0_letIn 1 [some (vR 0 b), some (vR 1 a), some (vZ v), none, none] [vZ v] σ post from ?_)
  by_cases h0v : v = 0
  · skip
    refine V_run kX0_letIn 1 [0] (show (zr v ∧ v = 0) ∧ V 1 MX0_letIn 4 [some (vR 0 b), some (vR 1 a), some (vZ v), none, none] [] σ post from ⟨(by omega), ?_⟩)
    have h9 := hp r (by rw [dCoN_none _ (fun e he q => by have h8 := hvb e (by omega) (by omega); rw [h0v, zbt_0, decide_eq_true q] at h8; cases h8)]; exact hq)
    rw [uL_self hr] at h9
    exact V_vret kX0_letIn rfl rfl (h9)
  · skip
    refine V_run kX0_letIn 3 [1] (show (zr v ∧ ¬ v = 0) ∧ V 1 MX0_letIn 7 [some (vR 0 b), some (vR 1 a), some (vZ v), some (vZ 0), none] [] σ post from ⟨(by omega), ?_⟩)
    have loop : ∀ (m e : Nat), e + m = (cn C).toNat → ∀ r' : Nat, zRq r' (dCoN C t e D) → V 1 MX0_letIn 7 [some (vR 0 b), some (vR 1 a), some (vZ v), some (vZ (e : Int)), none] [] (uL σ b 3 (lN r')) post := by
      intro m
      induction m with
      | zero =>
        intro e he r' hr'
        refine V_run kX0_letIn 3 [] (show V 1 MX0_letIn 12 [some (vR 0 b), some (vR 1 a), some (vZ v), some (vZ (e : Int)), none] [vZ ((uL σ b 3 (lN r')).1 b 2), vZ (e : Int)] (uL σ b 3 (lN r')) post from ?_)
        rw [show (uL σ b 3 (lN r')).1 b 2 = cn C from hpe]
        show V 1 MX0_letIn 12 [some (vR 0 b), some (vR 1 a), some (vZ v), some (vZ (e : Int)), none] [vZ (cn C), vZ (e : Int)] (uL σ b 3 (lN r')) post
        refine V_run kX0_letIn 1 [1] (show (zr (e : Int) ∧ zr (cn C) ∧ (cn C) ≤ (e : Int)) ∧ V 1 MX0_letIn 63 [some (vR 0 b), some (vR 1 a), some (vZ v), some (vZ (e : Int)), none] [] (uL σ b 3 (lN r')) post from ⟨(by omega), ?_⟩)
        have hee : e = (cn C).toNat := by omega
        subst hee
        exact V_vret kX0_letIn rfl rfl (hp r' hr')
      | succ m ih =>
        intro e he r' hr'
        have he0 : (0 : Int) ≤ (e : Int) := by omega
        have he1 : (e : Int) < cn C := by omega
        have hSo := (hC.2.2.1 e he0 he1).2.1
        have hso := (hpl.2.2.1 e he0 he1).2
        obtain ⟨hJe, hce⟩ := zJ_CoN (t := t) hC hJ hc e (by omega)
        have hvbe := hvb e he0 he1
        obtain ⟨De, hDe⟩ : ∃ De, De = dCoN C t e D := ⟨_, rfl⟩
        rw [← hDe] at hJe hce hr'
        have hnx : dCoN C t (e + 1) D = if cCm C e = t then dCo C e De else De := by rw [hDe]; rfl
        refine V_run kX0_letIn 3 [] (show V 1 MX0_letIn 12 [some (vR 0 b), some (vR 1 a), some (vZ v), some (vZ (e : Int)), none] [vZ ((uL σ b 3 (lN r')).1 b 2), vZ (e : Int)] (uL σ b 3 (lN r')) post from ?_)
        rw [show (uL σ b 3 (lN r')).1 b 2 = cn C from hpe]
        show V 1 MX0_letIn 12 [some (vR 0 b), some (vR 1 a), some (vZ v), some (vZ (e : Int)), none] [vZ (cn C), vZ (e : Int)] (uL σ b 3 (lN r')) post
        refine V_run kX0_letIn 7 [0] (show (zr (e : Int) ∧ zr (cn C) ∧ (e : Int) < (cn C)) ∧ V 1 MX0_letIn 21 [some (vR 0 b), some (vR 1 a), some (vZ v), some (vZ (e : Int)), none] [vZ 1, vZ (zand (zshr v (e : Int)) 1)] (uL σ b 3 (lN r')) post from ⟨(by omega), ?_⟩)
        rw [zbt_test he0 (by omega)]
        show V 1 MX0_letIn 21 [some (vR 0 b), some (vR 1 a), some (vZ v), some (vZ (e : Int)), none] [vZ 1, vZ (if zbt v (e : Int) = true then 1 else 0)] (uL σ b 3 (lN r')) post
        by_cases hb : zbt v (e : Int) = true
        · skip
          have hcond : cCm C e = t := of_decide_eq_true (hvbe.symm.trans hb)
          rw [if_pos hcond] at hnx
          have hs0 : ds De e = 0 := (hce e he0 he1).mpr (Or.inr ⟨hcond, Int.le_refl _⟩)
          have hroom := zJ_room hC.1.2 hJe he0 he1 (by omega)
          have hnn := hJe.1
          rw [if_pos hb]
          show V 1 MX0_letIn 21 [some (vR 0 b), some (vR 1 a), some (vZ v), some (vZ (e : Int)), none] [vZ 1, vZ 1] (uL σ b 3 (lN r')) post
          refine V_run kX0_letIn 3 [0] (show (zr 1 ∧ zr 1 ∧ 1 = 1) ∧ V 1 MX0_letIn 26 [some (vR 0 b), some (vR 1 a), some (vZ v), some (vZ (e : Int)), none] [vZ (e : Int), vR 1 a] (uL σ b 3 (lN r')) post from ⟨(by omega), ?_⟩)
          refine V_callV (a := [vZ (e : Int)]) (rest := []) kX0_letIn rfl oX2_sortOf iX2_sortOf lk_0_89 rfl rfl rfl (Nat.le_of_ble_eq_true rfl) (Nat.le_of_ble_eq_true rfl) (Nat.le_of_ble_eq_true rfl) (post' := fun zv zσ => V 1 MX0_letIn 29 [some (vR 0 b), some (vR 1 a), some (vZ v), some (vZ (e : Int)), none] (zv.toList ++ []) zσ post) (e_P_sortOf hz he0 (by omega) hso ((show V 1 MX0_letIn 29 [some (vR 0 b), some (vR 1 a), some (vZ v), some (vZ (e : Int)), none] [vZ (cSo C (e : Int))] (uL σ b 3 (lN r')) post from ?_))) (fun _ _ h => h)
          refine V_run kX0_letIn 2 [] (show V 1 MX0_letIn 33 [some (vR 0 b), some (vR 1 a), some (vZ v), some (vZ (e : Int)), none] [vL ((uL σ b 3 (lN r')).2 b 3), vZ (cSo C (e : Int))] (uL σ b 3 (lN r')) post from ?_)
          rw [uL_get]
          show V 1 MX0_letIn 33 [some (vR 0 b), some (vR 1 a), some (vZ v), some (vZ (e : Int)), none] [vL (lN r'), vZ (cSo C (e : Int))] (uL σ b 3 (lN r')) post
          obtain ⟨hl1, hl2⟩ := zRq_len hJe hr'
          refine V_callS (a := [vL (lN r')]) (rest := [vZ (cSo C (e : Int))]) kX0_letIn rfl oX1_length iX1_length lk_0_85 rfl rfl (Nat.le_of_ble_eq_true rfl) (Nat.le_of_ble_eq_true rfl) (Nat.le_of_ble_eq_true rfl) (post' := fun zv zσ => V 1 MX0_letIn 36 [some (vR 0 b), some (vR 1 a), some (vZ v), some (vZ (e : Int)), none] (zv.toList ++ [vZ (cSo C (e : Int))]) zσ post) (c_length hr'.1 (by omega) (by omega) hl1 hl2 ((show V 1 MX0_letIn 36 [some (vR 0 b), some (vR 1 a), some (vZ v), some (vZ (e : Int)), none] [vZ (dn De), vZ (cSo C (e : Int))] (uL σ b 3 (lN r')) post from ?_))) (fun _ _ h => h)
          obtain ⟨p, hpv⟩ : ∃ p, p = if cSo C e = 0 then dn De / 2 else if cSo C e = 1 then dn De / 3 else dn De := ⟨_, rfl⟩
          have hp01 : 0 ≤ p ∧ p ≤ dn De := by rw [hpv]; (repeat' split) <;> omega
          refine V_callS (a := [vZ (cSo C (e : Int)), vZ (dn De)]) (rest := []) kX0_letIn rfl oX0_placeToJoin iX0_placeToJoin lk_0_92 rfl rfl (Nat.le_of_ble_eq_true rfl) (Nat.le_of_ble_eq_true rfl) (Nat.le_of_ble_eq_true rfl) (post' := fun zv zσ => V 1 MX0_letIn 39 [some (vR 0 b), some (vR 1 a), some (vZ v), some (vZ (e : Int)), none] (zv.toList ++ []) zσ post) (c_C_place (by omega) (by omega) (by omega) (by omega) ((show V 1 MX0_letIn 39 [some (vR 0 b), some (vR 1 a), some (vZ v), some (vZ (e : Int)), none] [vZ (if cSo C (e : Int) = 0 then dn De / 2 else if cSo C (e : Int) = 1 then dn De / 3 else dn De)] (uL σ b 3 (lN r')) post from ?_))) (fun _ _ h => h)
          refine V_top (hpv.symm) ?_
          refine V_run kX0_letIn 8 [] (show V 1 MX0_letIn 51 [some (vR 0 b), some (vR 1 a), some (vZ v), some (vZ (e : Int)), some (vZ p)] [vZ ((e : Int) + 1), vZ p, vL ((uL σ b 3 (lN r')).2 b 3), vR 0 b] (uL σ b 3 (lN r')) post from ?_)
          rw [uL_get]
          show V 1 MX0_letIn 51 [some (vR 0 b), some (vR 1 a), some (vZ v), some (vZ (e : Int)), some (vZ p)] [vZ ((e : Int) + 1), vZ p, vL (lN r'), vR 0 b] (uL σ b 3 (lN r')) post
          have hins := zRq_ins (s := fPut (ds De) e 1) (l := dl De) (d := dd De) (p := p) hr' hroom hp01.1 hp01.2 he0 (by omega)
          refine V_callS (a := [vL (lN r'), vZ p, vZ ((e : Int) + 1)]) (rest := [vR 0 b]) kX0_letIn rfl oX1_inserted iX1_inserted lk_0_81 rfl rfl (Nat.le_of_ble_eq_true rfl) (Nat.le_of_ble_eq_true rfl) (Nat.le_of_ble_eq_true rfl) (post' := fun zv zσ => V 1 MX0_letIn 54 [some (vR 0 b), some (vR 1 a), some (vZ v), some (vZ (e : Int)), some (vZ p)] (zv.toList ++ [vR 0 b]) zσ post) (c_inserted (zRq_11 hr' hroom) hp01.1 (by omega) (by omega) (by omega) ((show V 1 MX0_letIn 54 [some (vR 0 b), some (vR 1 a), some (vZ v), some (vZ (e : Int)), some (vZ p)] [vL (lN (rIns r' p ((e : Int) + 1))), vR 0 b] (uL σ b 3 (lN r')) post from ?_))) (fun _ _ h => h)
          refine V_run kX0_letIn 1 [] (show V 1 MX0_letIn 57 [some (vR 0 b), some (vR 1 a), some (vZ v), some (vZ (e : Int)), some (vZ p)] [] (uL (uL σ b 3 (lN r')) b 3 (lN (rIns r' p ((e : Int) + 1)))) post from ?_)
          rw [uL_uL]
          show V 1 MX0_letIn 57 [some (vR 0 b), some (vR 1 a), some (vZ v), some (vZ (e : Int)), some (vZ p)] [] (uL σ b 3 (lN (rIns r' p ((e : Int) + 1)))) post
          refine V_run kX0_letIn 2 [] (show V 1 MX0_letIn 7 [some (vR 0 b), some (vR 1 a), some (vZ v), some (vZ ((e : Int) + 1)), some (vZ p)] [] (uL σ b 3 (lN (rIns r' p ((e : Int) + 1)))) post from ?_)
          refine V_drop (L := [some (vR 0 b), some (vR 1 a), some (vZ v), some (vZ ((e : Int) + 1)), none]) ⟨rfl, ⟨rfl, ⟨rfl, ⟨rfl, trivial⟩⟩⟩⟩ ?_
          exact ih (e + 1) (by omega) (rIns r' p ((e : Int) + 1)) (by rw [hnx]; unfold dCo; rw [← hpv]; exact hins)
        · skip
          have hcond : ¬ cCm C e = t := fun q => hb (by rw [hvbe]; exact decide_eq_true q)
          rw [if_neg hcond] at hnx
          rw [if_neg hb]
          show V 1 MX0_letIn 21 [some (vR 0 b), some (vR 1 a), some (vZ v), some (vZ (e : Int)), none] [vZ 1, vZ 0] (uL σ b 3 (lN r')) post
          refine V_run kX0_letIn 1 [1] (show (zr 0 ∧ zr 1 ∧ ¬ 0 = 1) ∧ V 1 MX0_letIn 57 [some (vR 0 b), some (vR 1 a), some (vZ v), some (vZ (e : Int)), none] [] (uL σ b 3 (lN r')) post from ⟨(by omega), ?_⟩)
          refine V_run kX0_letIn 2 [] (show V 1 MX0_letIn 7 [some (vR 0 b), some (vR 1 a), some (vZ v), some (vZ ((e : Int) + 1)), none] [] (uL σ b 3 (lN r')) post from ?_)
          refine V_drop (L := [some (vR 0 b), some (vR 1 a), some (vZ v), some (vZ ((e : Int) + 1)), none]) ⟨rfl, ⟨rfl, ⟨rfl, ⟨rfl, trivial⟩⟩⟩⟩ ?_
          exact ih (e + 1) (by omega) (r') (by rw [hnx]; exact hr')
    have h1 := loop (cn C).toNat 0 (by omega) r hq
    rw [uL_self hr] at h1
    exact h1
set_option maxHeartbeats 4000000 in
set_option maxRecDepth 100000 in
/-- keep -/
theorem c_C_keep {b : Nat} {t : Int} {σ : zSt} {post : Option VV → zSt → Prop} (hz1 : zlen (b + 1) = 24) (hz2 : zlen (b + 2) = 24) (h0 : 0 ≤ t) (h : t < 24) (hp : post none (uL (uL σ (b + 1) t (σ.2 b 3)) (b + 2) t ((uL σ (b + 1) t (σ.2 b 3)).2 b 4))) : Mc 0 MX0_keep [vR 0 b, vZ t] σ post := by
  show V 0 MX0_keep 0 [some (vR 0 b), some (vZ t)] [] σ post
  refine V_run kX0_keep 24 [0, 0, 0] (show (zr t ∧ 0 ≤ t) ∧ (zr t ∧ zr (zlen (b + 1)) ∧ t < (zlen (b + 1))) ∧ (zr t ∧ zr (zlen (b + 2)) ∧ t < (zlen (b + 2))) ∧ (0 ≤ t ∧ t < (zlen (b + 1))) ∧ (0 ≤ t ∧ t < (zlen (b + 2))) ∧ V 0 MX0_keep 42 [some (vR 0 b), some (vZ t)] [] (uL (uL σ (b + 1) t (σ.2 b 3)) (b + 2) t ((uL σ (b + 1) t (σ.2 b 3)).2 b 4)) post from ⟨(by omega), (by omega), (by omega), (by omega), (by omega), ?_⟩)
  exact V_vret kX0_keep rfl rfl (hp)
/-- what is left, behind the serving -/
def ySe (C : zCf) (t : Int) (D : zDy) (F B : Bool) (y : Nat) : Nat :=
  if B = true then rRep (if F = true then rRep y (dq D 0) (dgt y (dq D 0) - 1) else y) (dq D (dn D - 1)) (dgt (if F = true then rRep y (dq D 0) (dgt y (dq D 0) - 1) else y) (dq D (dn D - 1)) - 1) else (if F = true then rRep y (dq D 0) (dgt y (dq D 0) - 1) else y)
theorem zRl_se {C : zCf} {t : Int} {D : zDy} {y : Nat} (hC : cn C ≤ 12) (hJ : zJ C D) (hl : zRl y D) : zRl (ySe C t D (wFr C t D) (wBk C t D) y) (dSe C t D) := by
  have hfp : wFr C t D = true → (0 ≤ dq D 0 ∧ dq D 0 < 12) ∧ 0 < dl D (dq D 0) := fun h => by
    have h1 := wFr_i.mp h
    have h2 := hJ.2.1 0 (by omega) h1.1
    exact ⟨⟨h2.1.1, by omega⟩, h2.2.2⟩
  have hbp : wBk C t D = true → (0 ≤ dq D (dn D - 1) ∧ dq D (dn D - 1) < 12) ∧ 0 < dl D (dq D (dn D - 1)) := fun h => by
    have h1 := wBk_i.mp h
    have h2 := hJ.2.1 (dn D - 1) (by omega) (by omega)
    exact ⟨⟨h2.1.1, by omega⟩, h2.2.2⟩
  have hone := fun a b => lSe_one (t := t) hJ a b
  have e1 : ∀ k, dl (dSe C t D) k = lSe C t D k := fun k => rfl
  have h9 := hJ.2.2.2.2.1
  unfold ySe
  generalize hF : wFr C t D = F at hfp hone ⊢
  generalize hB : wBk C t D = B at hbp hone ⊢
  have hlse : ∀ k, lSe C t D k = dl D k - (if F = true ∧ k = dq D 0 then 1 else 0) - (if B = true ∧ k = dq D (dn D - 1) then 1 else 0) := fun k => by unfold lSe; rw [hF, hB]
  cases F <;> cases B <;> simp only [if_pos, Bool.false_eq_true, if_false] at hfp hbp hone hlse ⊢
  · refine ⟨hl.1, fun k a b => ?_⟩
    rw [e1, hlse, hl.2 k a b]; simp
  · obtain ⟨⟨b0, b1⟩, b2⟩ := hbp trivial
    have hd := hl.2 _ b0 b1
    have h8 := h9 (dq D (dn D - 1))
    refine ⟨rRep_lt hl.1 b0 b1 (by omega) (by omega), fun k a b => ?_⟩
    rw [e1, hlse, dgt_rRep b0 (by omega) (by omega) a, hl.2 k a b, hd]
    by_cases hk : k = dq D (dn D - 1)
    · rw [if_pos hk]; simp [hk]
    · rw [if_neg hk]; simp [hk]
  · obtain ⟨⟨b0, b1⟩, b2⟩ := hfp trivial
    have hd := hl.2 _ b0 b1
    have h8 := h9 (dq D 0)
    refine ⟨rRep_lt hl.1 b0 b1 (by omega) (by omega), fun k a b => ?_⟩
    rw [e1, hlse, dgt_rRep b0 (by omega) (by omega) a, hl.2 k a b, hd]
    by_cases hk : k = dq D 0
    · rw [if_pos hk]; simp [hk]
    · rw [if_neg hk]; simp [hk]
  · obtain ⟨⟨b0, b1⟩, b2⟩ := hfp trivial
    obtain ⟨⟨c0, c1⟩, c2⟩ := hbp trivial
    have hne := hone trivial trivial
    have hd := hl.2 _ b0 b1
    have hd2 := hl.2 _ c0 c1
    have h8 := h9 (dq D 0)
    have h7 := h9 (dq D (dn D - 1))
    have hm : ∀ k : Int, 0 ≤ k → dgt (rRep y (dq D 0) (dgt y (dq D 0) - 1)) k = if k = dq D 0 then dgt y (dq D 0) - 1 else dgt y k := fun k a => dgt_rRep b0 (by omega) (by omega) a
    have hm2 : dgt (rRep y (dq D 0) (dgt y (dq D 0) - 1)) (dq D (dn D - 1)) = dl D (dq D (dn D - 1)) := by rw [hm _ c0, if_neg (fun q => hne q.symm), hd2]
    rw [hm2]
    refine ⟨rRep_lt (rRep_lt hl.1 b0 b1 (by omega) (by omega)) c0 c1 (by omega) (by omega), fun k a b => ?_⟩
    rw [e1, hlse, dgt_rRep c0 (by omega) (by omega) a, hm k a, hl.2 k a b, hd]
    by_cases hk : k = dq D 0
    · have hk2 : ¬ k = dq D (dn D - 1) := fun q => hne (hk.symm.trans q)
      rw [if_neg hk2, if_pos hk]; simp [hk, hne]
    · by_cases hk2 : k = dq D (dn D - 1)
      · have hq9 : ¬ dq D (dn D - 1) = dq D 0 := fun q => hne q.symm
        rw [if_pos hk2]; simp [hk2, hq9]
      · rw [if_neg hk2, if_neg hk]; simp [hk, hk2]
def rSe (D : zDy) (F B : Bool) (r : Nat) : Nat := if F = true then rRem (if B = true then rRem r (dn D - 1) else r) 0 else (if B = true then rRem r (dn D - 1) else r)
theorem zRq_se {C : zCf} {t : Int} {D : zDy} {r : Nat} (hJ : zJ C D) (hq : zRq r D) : zRq (rSe D (sFr C t D) (sBk C t D) r) (dSe C t D) := by
  have hn := hJ.1
  have hfp : sFr C t D = true → 0 < dn D := fun h => (wFr_i.mp (sFr_i.mp h).1).1
  have hbp : sBk C t D = true → 0 < dn D := fun h => (wBk_i.mp (sBk_i.mp h).1).1
  have h2 : sFr C t D = true → sBk C t D = true → 2 ≤ dn D := fun a b => by
    have h1 := wFr_i.mp (sFr_i.mp a).1
    have h2 := wBk_i.mp (sBk_i.mp b).1
    omega
  unfold rSe dSe
  generalize sFr C t D = F at hfp h2 ⊢
  generalize sBk C t D = B at hbp h2 ⊢
  generalize (fun k => if (F = true ∧ k = dq D 0) ∨ (B = true ∧ k = dq D (dn D - 1)) then (2 : Int) else ds D k) = sx
  generalize (fun k => if (F = true ∧ k = dq D 0) ∨ (B = true ∧ k = dq D (dn D - 1)) then t else dd D k) = dx
  cases F <;> cases B <;> simp only [if_pos, Bool.false_eq_true, if_false] at hfp hbp h2 ⊢
  · refine ⟨hq.1, fun j a b => ?_⟩
    rw [hq.2 j a b]; simp
  · have h1 := zRq_rem (s := sx) (l := lSe C t D) (d := dx) (p := dn D - 1) hq hn.2 (by have := hbp trivial; omega) (by omega)
    refine ⟨h1.1, fun j a b => ?_⟩
    rw [h1.2 j a b]
    show (if j < dn D - 1 then qRem (dq D) (dn D - 1) j + 1 else 0) = if j < dn D - 1 - 0 then dq D j + 1 else 0
    unfold qRem
    by_cases hj : j < dn D - 1
    · rw [if_pos hj, if_pos hj, if_pos (by omega)]
    · rw [if_neg hj, if_neg (by omega)]
  · have h1 := zRq_rem (s := sx) (l := lSe C t D) (d := dx) (p := 0) hq hn.2 (by omega) (hfp trivial)
    refine ⟨h1.1, fun j a b => ?_⟩
    rw [h1.2 j a b]
    show (if j < dn D - 1 then qRem (dq D) 0 j + 1 else 0) = if j < dn D - 0 - 1 then dq D (j + 1) + 1 else 0
    unfold qRem
    by_cases hj : j < dn D - 1
    · rw [if_pos hj, if_neg (by omega), if_pos (by omega)]
    · rw [if_neg hj, if_neg (by omega)]
  · have hn2 := h2 trivial trivial
    have h0 := zRq_rem (s := sx) (l := lSe C t D) (d := dx) (p := dn D - 1) hq hn.2 (by omega) (by omega)
    have h1 := zRq_rem (s := sx) (l := lSe C t D) (d := dx) (p := 0) h0 (by show dn D - 1 ≤ 12; omega) (by omega) (by show 0 < dn D - 1; omega)
    refine ⟨h1.1, fun j a b => ?_⟩
    rw [h1.2 j a b]
    show (if j < dn D - 1 - 1 then qRem (qRem (dq D) (dn D - 1)) 0 j + 1 else 0) = if j < dn D - 1 - 1 then dq D (j + 1) + 1 else 0
    unfold qRem
    by_cases hj : j < dn D - 1 - 1
    · rw [if_pos hj, if_neg (by omega), if_pos (by omega), if_pos hj]
    · rw [if_neg hj, if_neg hj]
set_option maxHeartbeats 16000000 in
set_option maxRecDepth 100000 in
/-- serve -/
theorem c_C_serve {b : Nat} {C : zCf} {D : zDy} {t : Int} {r y : Nat} {σ : zSt} {post : Option VV → zSt → Prop} (hC : cn C ≤ 12) (hw0 : 0 ≤ cWi C t ∧ cWi C t ≤ 3) (hJ : zJ C D) (hq : zRq r D) (hl : zRl y D) (hr : σ.2 b 3 = lN r) (hy : σ.2 b 4 = lN y) (hp : ∀ r' y' : Nat, zRq r' (dSe C t D) → zRl y' (dSe C t D) → post none (sQL σ b (lN r') (lN y'))) : Mc 1 MX0_serve [vR 0 b, vZ (cWi C t)] σ post := by
  have hn := hJ.1
  obtain ⟨hl1, hl2⟩ := zRq_len hJ hq
  have hR := zRl_se (t := t) hC hJ hl
  have hQ := zRq_se (t := t) hJ hq
  have key : V 1 MX0_serve 0 [some (vR 0 b), some (vZ (cWi C t)), none, none, none, none, none] [] (sQL σ b (lN r) (lN y)) post := by
    refine V_run kX0_serve 2 [] (show V 1 MX0_serve 4 [some (vR 0 b), some (vZ (cWi C t)), none, none, none, none, none] [vL ((sQL σ b (lN r) (lN y)).2 b 3)] (sQL σ b (lN r) (lN y)) post from ?_)
    rw [sQL_g3]
    show V 1 MX0_serve 4 [some (vR 0 b), some (vZ (cWi C t)), none, none, none, none, none] [vL (lN r)] (sQL σ b (lN r) (lN y)) post
    refine V_callS (a := [vL (lN r)]) (rest := []) kX0_serve rfl oX1_length iX1_length lk_0_85 rfl rfl (Nat.le_of_ble_eq_true rfl) (Nat.le_of_ble_eq_true rfl) (Nat.le_of_ble_eq_true rfl) (post' := fun zv zσ => V 1 MX0_serve 7 [some (vR 0 b), some (vZ (cWi C t)), none, none, none, none, none] (zv.toList ++ []) zσ post) (c_length hq.1 hn.1 hn.2 hl1 hl2 ((show V 1 MX0_serve 7 [some (vR 0 b), some (vZ (cWi C t)), none, none, none, none, none] [vZ (dn D)] (sQL σ b (lN r) (lN y)) post from ?_))) (fun _ _ h => h)
    refine V_run kX0_serve 2 [] (show V 1 MX0_serve 9 [some (vR 0 b), some (vZ (cWi C t)), some (vZ (dn D)), none, none, none, none] [vZ (dn D)] (sQL σ b (lN r) (lN y)) post from ?_)
    by_cases hn0 : dn D = 0
    · skip
      refine V_run kX0_serve 1 [0] (show (zr (dn D) ∧ (dn D) = 0) ∧ V 1 MX0_serve 12 [some (vR 0 b), some (vZ (cWi C t)), some (vZ (dn D)), none, none, none, none] [] (sQL σ b (lN r) (lN y)) post from ⟨(by omega), ?_⟩)
      have hF : wFr C t D = false := by rw [← Bool.not_eq_true]; intro q; have := (wFr_i.mp q).1; omega
      have hB : wBk C t D = false := by rw [← Bool.not_eq_true]; intro q; have := (wBk_i.mp q).1; omega
      have hsF : sFr C t D = false := by rw [← Bool.not_eq_true]; intro q; rw [(sFr_i.mp q).1] at hF; cases hF
      have hsB : sBk C t D = false := by rw [← Bool.not_eq_true]; intro q; rw [(sBk_i.mp q).1] at hB; cases hB
      rw [hF, hB] at hR
      rw [hsF, hsB] at hQ
      exact V_vret kX0_serve rfl rfl (hp _ _ hQ hR)
    · skip
      refine V_run kX0_serve 1 [1] (show (zr (dn D) ∧ ¬ (dn D) = 0) ∧ V 1 MX0_serve 13 [some (vR 0 b), some (vZ (cWi C t)), some (vZ (dn D)), none, none, none, none] [] (sQL σ b (lN r) (lN y)) post from ⟨(by omega), ?_⟩)
      have hqf := hJ.2.1 0 (by omega) (by omega)
      have hql := hJ.2.1 (dn D - 1) (by omega) (by omega)
      have hdf := hq.2 0 (by omega) (by omega)
      rw [if_pos (by omega)] at hdf
      have hdl := hq.2 (dn D - 1) (by omega) (by omega)
      rw [if_pos (by omega)] at hdl
      have h9f := hJ.2.2.2.2.1 (dq D 0)
      have h9l := hJ.2.2.2.2.1 (dq D (dn D - 1))
      have hyf := hl.2 (dq D 0) (by omega) (by omega)
      have hyl := hl.2 (dq D (dn D - 1)) (by omega) (by omega)
      by_cases hw : cWi C t = 0
      · skip
        have hF : wFr C t D = false := by rw [← Bool.not_eq_true]; intro q; have := (wFr_i.mp q).2; omega
        have hB : wBk C t D = false := by rw [← Bool.not_eq_true]; intro q; have := (wBk_i.mp q).2; omega
        rw [hF, hB] at hR
        have hsF : sFr C t D = false := by rw [← Bool.not_eq_true]; intro q; rw [(sFr_i.mp q).1] at hF; cases hF
        rw [hsF] at hQ
        have hsB : sBk C t D = false := by rw [← Bool.not_eq_true]; intro q; rw [(sBk_i.mp q).1] at hB; cases hB
        rw [hsB] at hQ
        rw [hw]
        show V 1 MX0_serve 13 [some (vR 0 b), some (vZ 0), some (vZ (dn D)), none, none, none, none] [] (sQL σ b (lN r) (lN y)) post
        refine V_run kX0_serve 15 [1, 1] (show (zr (zand 0 1) ∧ (zand 0 1) = 0) ∧ (zr (zand 0 2) ∧ (zand 0 2) = 0) ∧ V 1 MX0_serve 52 [some (vR 0 b), some (vZ 0), some (vZ (dn D)), some (vZ 0), some (vZ 0), none, none] [vZ 0, vL ((sQL σ b (lN r) (lN y)).2 b 3)] (sQL σ b (lN r) (lN y)) post from ⟨(by decide), (by decide), ?_⟩)
        rw [sQL_g3]
        show V 1 MX0_serve 52 [some (vR 0 b), some (vZ 0), some (vZ (dn D)), some (vZ 0), some (vZ 0), none, none] [vZ 0, vL (lN r)] (sQL σ b (lN r) (lN y)) post
        refine V_callS (a := [vL (lN r), vZ 0]) (rest := []) kX0_serve rfl oX1_digit iX1_digit lk_0_96 rfl rfl (Nat.le_of_ble_eq_true rfl) (Nat.le_of_ble_eq_true rfl) (Nat.le_of_ble_eq_true rfl) (post' := fun zv zσ => V 1 MX0_serve 55 [some (vR 0 b), some (vZ 0), some (vZ (dn D)), some (vZ 0), some (vZ 0), none, none] (zv.toList ++ []) zσ post) (c_digit hq.1 (by omega) (by omega) ((show V 1 MX0_serve 55 [some (vR 0 b), some (vZ 0), some (vZ (dn D)), some (vZ 0), some (vZ 0), none, none] [vZ (dgt r 0)] (sQL σ b (lN r) (lN y)) post from ?_))) (fun _ _ h => h)
        refine V_run kX0_serve 2 [] (show V 1 MX0_serve 57 [some (vR 0 b), some (vZ 0), some (vZ (dn D)), some (vZ 0), some (vZ 0), none, none] [vZ ((dgt r 0) - 1)] (sQL σ b (lN r) (lN y)) post from ?_)
        refine V_top (show dgt r 0 - 1 = dq D 0 by omega) ?_
        refine V_run kX0_serve 6 [] (show V 1 MX0_serve 66 [some (vR 0 b), some (vZ 0), some (vZ (dn D)), some (vZ 0), some (vZ 0), some (vZ (dq D 0)), none] [vZ ((dn D) - 1), vL ((sQL σ b (lN r) (lN y)).2 b 3)] (sQL σ b (lN r) (lN y)) post from ?_)
        rw [sQL_g3]
        show V 1 MX0_serve 66 [some (vR 0 b), some (vZ 0), some (vZ (dn D)), some (vZ 0), some (vZ 0), some (vZ (dq D 0)), none] [vZ ((dn D) - 1), vL (lN r)] (sQL σ b (lN r) (lN y)) post
        refine V_callS (a := [vL (lN r), vZ ((dn D) - 1)]) (rest := []) kX0_serve rfl oX1_digit iX1_digit lk_0_96 rfl rfl (Nat.le_of_ble_eq_true rfl) (Nat.le_of_ble_eq_true rfl) (Nat.le_of_ble_eq_true rfl) (post' := fun zv zσ => V 1 MX0_serve 69 [some (vR 0 b), some (vZ 0), some (vZ (dn D)), some (vZ 0), some (vZ 0), some (vZ (dq D 0)), none] (zv.toList ++ []) zσ post) (c_digit hq.1 (by omega) (by omega) ((show V 1 MX0_serve 69 [some (vR 0 b), some (vZ 0), some (vZ (dn D)), some (vZ 0), some (vZ 0), some (vZ (dq D 0)), none] [vZ (dgt r (dn D - 1))] (sQL σ b (lN r) (lN y)) post from ?_))) (fun _ _ h => h)
        refine V_run kX0_serve 2 [] (show V 1 MX0_serve 71 [some (vR 0 b), some (vZ 0), some (vZ (dn D)), some (vZ 0), some (vZ 0), some (vZ (dq D 0)), none] [vZ ((dgt r (dn D - 1)) - 1)] (sQL σ b (lN r) (lN y)) post from ?_)
        refine V_top (show dgt r (dn D - 1) - 1 = dq D (dn D - 1) by omega) ?_
        have hy1 := hl.1
        refine V_run kX0_serve 6 [1] (show (zr 0 ∧ 0 = 0) ∧ V 1 MX0_serve 94 [some (vR 0 b), some (vZ 0), some (vZ (dn D)), some (vZ 0), some (vZ 0), some (vZ (dq D 0)), some (vZ (dq D (dn D - 1)))] [vL ((sQL σ b (lN r) (lN y)).2 b 4), vR 0 b] (sQL σ b (lN r) (lN y)) post from ⟨(by omega), ?_⟩)
        rw [sQL_g4]
        show V 1 MX0_serve 94 [some (vR 0 b), some (vZ 0), some (vZ (dn D)), some (vZ 0), some (vZ 0), some (vZ (dq D 0)), some (vZ (dq D (dn D - 1)))] [vL (lN y), vR 0 b] (sQL σ b (lN r) (lN y)) post
        refine V_run kX0_serve 1 [] (show V 1 MX0_serve 97 [some (vR 0 b), some (vZ 0), some (vZ (dn D)), some (vZ 0), some (vZ 0), some (vZ (dq D 0)), some (vZ (dq D (dn D - 1)))] [] (uL (sQL σ b (lN r) (lN y)) b 4 (lN y)) post from ?_)
        rw [sQL_4]
        show V 1 MX0_serve 97 [some (vR 0 b), some (vZ 0), some (vZ (dn D)), some (vZ 0), some (vZ 0), some (vZ (dq D 0)), some (vZ (dq D (dn D - 1)))] [] (sQL σ b (lN r) (lN (y))) post
        refine V_run kX0_serve 5 [1] (show (zr 0 ∧ 0 = 0) ∧ V 1 MX0_serve 119 [some (vR 0 b), some (vZ 0), some (vZ (dn D)), some (vZ 0), some (vZ 0), some (vZ (dq D 0)), some (vZ (dq D (dn D - 1)))] [vL ((sQL σ b (lN r) (lN (y))).2 b 4), vR 0 b] (sQL σ b (lN r) (lN (y))) post from ⟨(by omega), ?_⟩)
        rw [sQL_g4]
        show V 1 MX0_serve 119 [some (vR 0 b), some (vZ 0), some (vZ (dn D)), some (vZ 0), some (vZ 0), some (vZ (dq D 0)), some (vZ (dq D (dn D - 1)))] [vL (lN (y)), vR 0 b] (sQL σ b (lN r) (lN (y))) post
        refine V_run kX0_serve 1 [] (show V 1 MX0_serve 122 [some (vR 0 b), some (vZ 0), some (vZ (dn D)), some (vZ 0), some (vZ 0), some (vZ (dq D 0)), some (vZ (dq D (dn D - 1)))] [] (uL (sQL σ b (lN r) (lN (y))) b 4 (lN (y))) post from ?_)
        rw [sQL_4]
        show V 1 MX0_serve 122 [some (vR 0 b), some (vZ 0), some (vZ (dn D)), some (vZ 0), some (vZ 0), some (vZ (dq D 0)), some (vZ (dq D (dn D - 1)))] [] (sQL σ b (lN r) (lN (y))) post
        have hR1 : zRl (y) (dSe C t D) := hR
        have hlr := fun k => lSe_rng (t := t) hJ k
        have hlf := hlr (dq D 0)
        have hll := hlr (dq D (dn D - 1))
        refine V_run kX0_serve 4 [1, 1] (show (zr 0 ∧ 0 = 0) ∧ (zr 0 ∧ 0 = 0) ∧ V 1 MX0_serve 181 [some (vR 0 b), some (vZ 0), some (vZ (dn D)), some (vZ 0), some (vZ 0), some (vZ (dq D 0)), some (vZ (dq D (dn D - 1)))] [] (sQL σ b (lN r) (lN (y))) post from ⟨(by omega), (by omega), ?_⟩)
        exact V_vret kX0_serve rfl rfl (hp _ _ hQ hR1)
      by_cases hw : cWi C t = 1
      · skip
        have hF : wFr C t D = true := by exact wFr_i.mpr ⟨by omega, by omega⟩
        have hB : wBk C t D = false := by rw [← Bool.not_eq_true]; intro q; have := (wBk_i.mp q).2; omega
        rw [hF, hB] at hR
        have hsB : sBk C t D = false := by rw [← Bool.not_eq_true]; intro q; rw [(sBk_i.mp q).1] at hB; cases hB
        rw [hsB] at hQ
        rw [hw]
        show V 1 MX0_serve 13 [some (vR 0 b), some (vZ 1), some (vZ (dn D)), none, none, none, none] [] (sQL σ b (lN r) (lN y)) post
        refine V_run kX0_serve 16 [0, 1] (show (zr (zand 1 1) ∧ ¬ (zand 1 1) = 0) ∧ (zr (zand 1 2) ∧ (zand 1 2) = 0) ∧ V 1 MX0_serve 52 [some (vR 0 b), some (vZ 1), some (vZ (dn D)), some (vZ 1), some (vZ 0), none, none] [vZ 0, vL ((sQL σ b (lN r) (lN y)).2 b 3)] (sQL σ b (lN r) (lN y)) post from ⟨(by decide), (by decide), ?_⟩)
        rw [sQL_g3]
        show V 1 MX0_serve 52 [some (vR 0 b), some (vZ 1), some (vZ (dn D)), some (vZ 1), some (vZ 0), none, none] [vZ 0, vL (lN r)] (sQL σ b (lN r) (lN y)) post
        refine V_callS (a := [vL (lN r), vZ 0]) (rest := []) kX0_serve rfl oX1_digit iX1_digit lk_0_96 rfl rfl (Nat.le_of_ble_eq_true rfl) (Nat.le_of_ble_eq_true rfl) (Nat.le_of_ble_eq_true rfl) (post' := fun zv zσ => V 1 MX0_serve 55 [some (vR 0 b), some (vZ 1), some (vZ (dn D)), some (vZ 1), some (vZ 0), none, none] (zv.toList ++ []) zσ post) (c_digit hq.1 (by omega) (by omega) ((show V 1 MX0_serve 55 [some (vR 0 b), some (vZ 1), some (vZ (dn D)), some (vZ 1), some (vZ 0), none, none] [vZ (dgt r 0)] (sQL σ b (lN r) (lN y)) post from ?_))) (fun _ _ h => h)
        refine V_run kX0_serve 2 [] (show V 1 MX0_serve 57 [some (vR 0 b), some (vZ 1), some (vZ (dn D)), some (vZ 1), some (vZ 0), none, none] [vZ ((dgt r 0) - 1)] (sQL σ b (lN r) (lN y)) post from ?_)
        refine V_top (show dgt r 0 - 1 = dq D 0 by omega) ?_
        refine V_run kX0_serve 6 [] (show V 1 MX0_serve 66 [some (vR 0 b), some (vZ 1), some (vZ (dn D)), some (vZ 1), some (vZ 0), some (vZ (dq D 0)), none] [vZ ((dn D) - 1), vL ((sQL σ b (lN r) (lN y)).2 b 3)] (sQL σ b (lN r) (lN y)) post from ?_)
        rw [sQL_g3]
        show V 1 MX0_serve 66 [some (vR 0 b), some (vZ 1), some (vZ (dn D)), some (vZ 1), some (vZ 0), some (vZ (dq D 0)), none] [vZ ((dn D) - 1), vL (lN r)] (sQL σ b (lN r) (lN y)) post
        refine V_callS (a := [vL (lN r), vZ ((dn D) - 1)]) (rest := []) kX0_serve rfl oX1_digit iX1_digit lk_0_96 rfl rfl (Nat.le_of_ble_eq_true rfl) (Nat.le_of_ble_eq_true rfl) (Nat.le_of_ble_eq_true rfl) (post' := fun zv zσ => V 1 MX0_serve 69 [some (vR 0 b), some (vZ 1), some (vZ (dn D)), some (vZ 1), some (vZ 0), some (vZ (dq D 0)), none] (zv.toList ++ []) zσ post) (c_digit hq.1 (by omega) (by omega) ((show V 1 MX0_serve 69 [some (vR 0 b), some (vZ 1), some (vZ (dn D)), some (vZ 1), some (vZ 0), some (vZ (dq D 0)), none] [vZ (dgt r (dn D - 1))] (sQL σ b (lN r) (lN y)) post from ?_))) (fun _ _ h => h)
        refine V_run kX0_serve 2 [] (show V 1 MX0_serve 71 [some (vR 0 b), some (vZ 1), some (vZ (dn D)), some (vZ 1), some (vZ 0), some (vZ (dq D 0)), none] [vZ ((dgt r (dn D - 1)) - 1)] (sQL σ b (lN r) (lN y)) post from ?_)
        refine V_top (show dgt r (dn D - 1) - 1 = dq D (dn D - 1) by omega) ?_
        refine V_run kX0_serve 7 [0] (show (zr 1 ∧ ¬ 1 = 0) ∧ V 1 MX0_serve 84 [some (vR 0 b), some (vZ 1), some (vZ (dn D)), some (vZ 1), some (vZ 0), some (vZ (dq D 0)), some (vZ (dq D (dn D - 1)))] [vZ (dq D 0), vL ((sQL σ b (lN r) (lN y)).2 b 4), vR 0 b] (sQL σ b (lN r) (lN y)) post from ⟨(by omega), ?_⟩)
        rw [sQL_g4]
        show V 1 MX0_serve 84 [some (vR 0 b), some (vZ 1), some (vZ (dn D)), some (vZ 1), some (vZ 0), some (vZ (dq D 0)), some (vZ (dq D (dn D - 1)))] [vZ (dq D 0), vL (lN y), vR 0 b] (sQL σ b (lN r) (lN y)) post
        refine V_callS (a := [vL (lN y), vZ (dq D 0)]) (rest := [vR 0 b]) kX0_serve rfl oX1_lowered iX1_lowered lk_0_99 rfl rfl (Nat.le_of_ble_eq_true rfl) (Nat.le_of_ble_eq_true rfl) (Nat.le_of_ble_eq_true rfl) (post' := fun zv zσ => V 1 MX0_serve 87 [some (vR 0 b), some (vZ 1), some (vZ (dn D)), some (vZ 1), some (vZ 0), some (vZ (dq D 0)), some (vZ (dq D (dn D - 1)))] (zv.toList ++ [vR 0 b]) zσ post) (c_lowered hl.1 (by omega) (by omega) (by omega) ((show V 1 MX0_serve 87 [some (vR 0 b), some (vZ 1), some (vZ (dn D)), some (vZ 1), some (vZ 0), some (vZ (dq D 0)), some (vZ (dq D (dn D - 1)))] [vL (lN (rRep y (dq D 0) (dgt y (dq D 0) - 1))), vR 0 b] (sQL σ b (lN r) (lN y)) post from ?_))) (fun _ _ h => h)
        have hy1 : (rRep y (dq D 0) (dgt y (dq D 0) - 1)) < 16 ^ 12 := rRep_lt hl.1 (by omega) (by omega) (by omega) (by omega)
        have hyd : ∀ k : Int, 0 ≤ k → dgt (rRep y (dq D 0) (dgt y (dq D 0) - 1)) k = if k = dq D 0 then dgt y (dq D 0) - 1 else dgt y k := fun k a => dgt_rRep (by omega) (by omega) (by omega) a
        refine V_run kX0_serve 2 [] (show V 1 MX0_serve 97 [some (vR 0 b), some (vZ 1), some (vZ (dn D)), some (vZ 1), some (vZ 0), some (vZ (dq D 0)), some (vZ (dq D (dn D - 1)))] [] (uL (sQL σ b (lN r) (lN y)) b 4 (lN (rRep y (dq D 0) (dgt y (dq D 0) - 1)))) post from ?_)
        rw [sQL_4]
        show V 1 MX0_serve 97 [some (vR 0 b), some (vZ 1), some (vZ (dn D)), some (vZ 1), some (vZ 0), some (vZ (dq D 0)), some (vZ (dq D (dn D - 1)))] [] (sQL σ b (lN r) (lN (rRep y (dq D 0) (dgt y (dq D 0) - 1)))) post
        refine V_run kX0_serve 5 [1] (show (zr 0 ∧ 0 = 0) ∧ V 1 MX0_serve 119 [some (vR 0 b), some (vZ 1), some (vZ (dn D)), some (vZ 1), some (vZ 0), some (vZ (dq D 0)), some (vZ (dq D (dn D - 1)))] [vL ((sQL σ b (lN r) (lN (rRep y (dq D 0) (dgt y (dq D 0) - 1)))).2 b 4), vR 0 b] (sQL σ b (lN r) (lN (rRep y (dq D 0) (dgt y (dq D 0) - 1)))) post from ⟨(by omega), ?_⟩)
        rw [sQL_g4]
        show V 1 MX0_serve 119 [some (vR 0 b), some (vZ 1), some (vZ (dn D)), some (vZ 1), some (vZ 0), some (vZ (dq D 0)), some (vZ (dq D (dn D - 1)))] [vL (lN (rRep y (dq D 0) (dgt y (dq D 0) - 1))), vR 0 b] (sQL σ b (lN r) (lN (rRep y (dq D 0) (dgt y (dq D 0) - 1)))) post
        refine V_run kX0_serve 1 [] (show V 1 MX0_serve 122 [some (vR 0 b), some (vZ 1), some (vZ (dn D)), some (vZ 1), some (vZ 0), some (vZ (dq D 0)), some (vZ (dq D (dn D - 1)))] [] (uL (sQL σ b (lN r) (lN (rRep y (dq D 0) (dgt y (dq D 0) - 1)))) b 4 (lN (rRep y (dq D 0) (dgt y (dq D 0) - 1)))) post from ?_)
        rw [sQL_4]
        show V 1 MX0_serve 122 [some (vR 0 b), some (vZ 1), some (vZ (dn D)), some (vZ 1), some (vZ 0), some (vZ (dq D 0)), some (vZ (dq D (dn D - 1)))] [] (sQL σ b (lN r) (lN (rRep y (dq D 0) (dgt y (dq D 0) - 1)))) post
        have hR1 : zRl (rRep y (dq D 0) (dgt y (dq D 0) - 1)) (dSe C t D) := hR
        have hzf : dgt (rRep y (dq D 0) (dgt y (dq D 0) - 1)) (dq D 0) = lSe C t D (dq D 0) := hR1.2 _ (by omega) (by omega)
        have hlr := fun k => lSe_rng (t := t) hJ k
        have hlf := hlr (dq D 0)
        have hll := hlr (dq D (dn D - 1))
        refine V_run kX0_serve 7 [1, 0] (show (zr 0 ∧ 0 = 0) ∧ (zr 1 ∧ ¬ 1 = 0) ∧ V 1 MX0_serve 163 [some (vR 0 b), some (vZ 1), some (vZ (dn D)), some (vZ 1), some (vZ 0), some (vZ (dq D 0)), some (vZ (dq D (dn D - 1)))] [vZ (dq D 0), vL ((sQL σ b (lN r) (lN (rRep y (dq D 0) (dgt y (dq D 0) - 1)))).2 b 4)] (sQL σ b (lN r) (lN (rRep y (dq D 0) (dgt y (dq D 0) - 1)))) post from ⟨(by omega), (by omega), ?_⟩)
        rw [sQL_g4]
        show V 1 MX0_serve 163 [some (vR 0 b), some (vZ 1), some (vZ (dn D)), some (vZ 1), some (vZ 0), some (vZ (dq D 0)), some (vZ (dq D (dn D - 1)))] [vZ (dq D 0), vL (lN (rRep y (dq D 0) (dgt y (dq D 0) - 1)))] (sQL σ b (lN r) (lN (rRep y (dq D 0) (dgt y (dq D 0) - 1)))) post
        refine V_callS (a := [vL (lN (rRep y (dq D 0) (dgt y (dq D 0) - 1))), vZ (dq D 0)]) (rest := []) kX0_serve rfl oX1_digit iX1_digit lk_0_96 rfl rfl (Nat.le_of_ble_eq_true rfl) (Nat.le_of_ble_eq_true rfl) (Nat.le_of_ble_eq_true rfl) (post' := fun zv zσ => V 1 MX0_serve 166 [some (vR 0 b), some (vZ 1), some (vZ (dn D)), some (vZ 1), some (vZ 0), some (vZ (dq D 0)), some (vZ (dq D (dn D - 1)))] (zv.toList ++ []) zσ post) (c_digit hR1.1 (by omega) (by omega) ((show V 1 MX0_serve 166 [some (vR 0 b), some (vZ 1), some (vZ (dn D)), some (vZ 1), some (vZ 0), some (vZ (dq D 0)), some (vZ (dq D (dn D - 1)))] [vZ (dgt (rRep y (dq D 0) (dgt y (dq D 0) - 1)) (dq D 0))] (sQL σ b (lN r) (lN (rRep y (dq D 0) (dgt y (dq D 0) - 1)))) post from ?_))) (fun _ _ h => h)
        refine V_top (hzf) ?_
        by_cases hcf : lSe C t D (dq D 0) = 0
        · skip
          have hsF : sFr C t D = true := sFr_i.mpr ⟨hF, hcf⟩
          rw [hsF] at hQ
          refine V_run kX0_serve 5 [0] (show (zr (lSe C t D (dq D 0)) ∧ (lSe C t D (dq D 0)) = 0) ∧ V 1 MX0_serve 175 [some (vR 0 b), some (vZ 1), some (vZ (dn D)), some (vZ 1), some (vZ 0), some (vZ (dq D 0)), some (vZ (dq D (dn D - 1)))] [vZ 0, vL ((sQL σ b (lN r) (lN (rRep y (dq D 0) (dgt y (dq D 0) - 1)))).2 b 3), vR 0 b] (sQL σ b (lN r) (lN (rRep y (dq D 0) (dgt y (dq D 0) - 1)))) post from ⟨(by omega), ?_⟩)
          rw [sQL_g3]
          show V 1 MX0_serve 175 [some (vR 0 b), some (vZ 1), some (vZ (dn D)), some (vZ 1), some (vZ 0), some (vZ (dq D 0)), some (vZ (dq D (dn D - 1)))] [vZ 0, vL (lN (r)), vR 0 b] (sQL σ b (lN r) (lN (rRep y (dq D 0) (dgt y (dq D 0) - 1)))) post
          have hrr : (r) < 16 ^ 12 := hq.1
          refine V_callS (a := [vL (lN (r)), vZ 0]) (rest := [vR 0 b]) kX0_serve rfl oX1_removed iX1_removed lk_0_74 rfl rfl (Nat.le_of_ble_eq_true rfl) (Nat.le_of_ble_eq_true rfl) (Nat.le_of_ble_eq_true rfl) (post' := fun zv zσ => V 1 MX0_serve 178 [some (vR 0 b), some (vZ 1), some (vZ (dn D)), some (vZ 1), some (vZ 0), some (vZ (dq D 0)), some (vZ (dq D (dn D - 1)))] (zv.toList ++ [vR 0 b]) zσ post) (c_removed hrr (by omega) (by omega) ((show V 1 MX0_serve 178 [some (vR 0 b), some (vZ 1), some (vZ (dn D)), some (vZ 1), some (vZ 0), some (vZ (dq D 0)), some (vZ (dq D (dn D - 1)))] [vL (lN (rRem (r) 0)), vR 0 b] (sQL σ b (lN r) (lN (rRep y (dq D 0) (dgt y (dq D 0) - 1)))) post from ?_))) (fun _ _ h => h)
          refine V_run kX0_serve 1 [] (show V 1 MX0_serve 181 [some (vR 0 b), some (vZ 1), some (vZ (dn D)), some (vZ 1), some (vZ 0), some (vZ (dq D 0)), some (vZ (dq D (dn D - 1)))] [] (uL (sQL σ b (lN r) (lN (rRep y (dq D 0) (dgt y (dq D 0) - 1)))) b 3 (lN (rRem (r) 0))) post from ?_)
          rw [sQL_3]
          show V 1 MX0_serve 181 [some (vR 0 b), some (vZ 1), some (vZ (dn D)), some (vZ 1), some (vZ 0), some (vZ (dq D 0)), some (vZ (dq D (dn D - 1)))] [] (sQL σ b (lN (rRem (r) 0)) (lN (rRep y (dq D 0) (dgt y (dq D 0) - 1)))) post
          exact V_vret kX0_serve rfl rfl (hp _ _ hQ hR1)
        · skip
          have hsF : sFr C t D = false := by rw [← Bool.not_eq_true]; exact fun q => hcf (sFr_i.mp q).2
          rw [hsF] at hQ
          refine V_run kX0_serve 1 [1] (show (zr (lSe C t D (dq D 0)) ∧ ¬ (lSe C t D (dq D 0)) = 0) ∧ V 1 MX0_serve 181 [some (vR 0 b), some (vZ 1), some (vZ (dn D)), some (vZ 1), some (vZ 0), some (vZ (dq D 0)), some (vZ (dq D (dn D - 1)))] [] (sQL σ b (lN r) (lN (rRep y (dq D 0) (dgt y (dq D 0) - 1)))) post from ⟨(by omega), ?_⟩)
          exact V_vret kX0_serve rfl rfl (hp _ _ hQ hR1)
      by_cases hw : cWi C t = 2
      · skip
        have hF : wFr C t D = false := by rw [← Bool.not_eq_true]; intro q; have := (wFr_i.mp q).2; omega
        have hB : wBk C t D = true := by exact wBk_i.mpr ⟨by omega, by omega⟩
        rw [hF, hB] at hR
        have hsF : sFr C t D = false := by rw [← Bool.not_eq_true]; intro q; rw [(sFr_i.mp q).1] at hF; cases hF
        rw [hsF] at hQ
        rw [hw]
        show V 1 MX0_serve 13 [some (vR 0 b), some (vZ 2), some (vZ (dn D)), none, none, none, none] [] (sQL σ b (lN r) (lN y)) post
        refine V_run kX0_serve 18 [1, 0, 1] (show (zr (zand 2 1) ∧ (zand 2 1) = 0) ∧ (zr (zand 2 2) ∧ ¬ (zand 2 2) = 0) ∧ (zr 0 ∧ 0 = 0) ∧ V 1 MX0_serve 52 [some (vR 0 b), some (vZ 2), some (vZ (dn D)), some (vZ 0), some (vZ 1), none, none] [vZ 0, vL ((sQL σ b (lN r) (lN y)).2 b 3)] (sQL σ b (lN r) (lN y)) post from ⟨(by decide), (by decide), (by omega), ?_⟩)
        rw [sQL_g3]
        show V 1 MX0_serve 52 [some (vR 0 b), some (vZ 2), some (vZ (dn D)), some (vZ 0), some (vZ 1), none, none] [vZ 0, vL (lN r)] (sQL σ b (lN r) (lN y)) post
        refine V_callS (a := [vL (lN r), vZ 0]) (rest := []) kX0_serve rfl oX1_digit iX1_digit lk_0_96 rfl rfl (Nat.le_of_ble_eq_true rfl) (Nat.le_of_ble_eq_true rfl) (Nat.le_of_ble_eq_true rfl) (post' := fun zv zσ => V 1 MX0_serve 55 [some (vR 0 b), some (vZ 2), some (vZ (dn D)), some (vZ 0), some (vZ 1), none, none] (zv.toList ++ []) zσ post) (c_digit hq.1 (by omega) (by omega) ((show V 1 MX0_serve 55 [some (vR 0 b), some (vZ 2), some (vZ (dn D)), some (vZ 0), some (vZ 1), none, none] [vZ (dgt r 0)] (sQL σ b (lN r) (lN y)) post from ?_))) (fun _ _ h => h)
        refine V_run kX0_serve 2 [] (show V 1 MX0_serve 57 [some (vR 0 b), some (vZ 2), some (vZ (dn D)), some (vZ 0), some (vZ 1), none, none] [vZ ((dgt r 0) - 1)] (sQL σ b (lN r) (lN y)) post from ?_)
        refine V_top (show dgt r 0 - 1 = dq D 0 by omega) ?_
        refine V_run kX0_serve 6 [] (show V 1 MX0_serve 66 [some (vR 0 b), some (vZ 2), some (vZ (dn D)), some (vZ 0), some (vZ 1), some (vZ (dq D 0)), none] [vZ ((dn D) - 1), vL ((sQL σ b (lN r) (lN y)).2 b 3)] (sQL σ b (lN r) (lN y)) post from ?_)
        rw [sQL_g3]
        show V 1 MX0_serve 66 [some (vR 0 b), some (vZ 2), some (vZ (dn D)), some (vZ 0), some (vZ 1), some (vZ (dq D 0)), none] [vZ ((dn D) - 1), vL (lN r)] (sQL σ b (lN r) (lN y)) post
        refine V_callS (a := [vL (lN r), vZ ((dn D) - 1)]) (rest := []) kX0_serve rfl oX1_digit iX1_digit lk_0_96 rfl rfl (Nat.le_of_ble_eq_true rfl) (Nat.le_of_ble_eq_true rfl) (Nat.le_of_ble_eq_true rfl) (post' := fun zv zσ => V 1 MX0_serve 69 [some (vR 0 b), some (vZ 2), some (vZ (dn D)), some (vZ 0), some (vZ 1), some (vZ (dq D 0)), none] (zv.toList ++ []) zσ post) (c_digit hq.1 (by omega) (by omega) ((show V 1 MX0_serve 69 [some (vR 0 b), some (vZ 2), some (vZ (dn D)), some (vZ 0), some (vZ 1), some (vZ (dq D 0)), none] [vZ (dgt r (dn D - 1))] (sQL σ b (lN r) (lN y)) post from ?_))) (fun _ _ h => h)
        refine V_run kX0_serve 2 [] (show V 1 MX0_serve 71 [some (vR 0 b), some (vZ 2), some (vZ (dn D)), some (vZ 0), some (vZ 1), some (vZ (dq D 0)), none] [vZ ((dgt r (dn D - 1)) - 1)] (sQL σ b (lN r) (lN y)) post from ?_)
        refine V_top (show dgt r (dn D - 1) - 1 = dq D (dn D - 1) by omega) ?_
        have hy1 := hl.1
        refine V_run kX0_serve 6 [1] (show (zr 0 ∧ 0 = 0) ∧ V 1 MX0_serve 94 [some (vR 0 b), some (vZ 2), some (vZ (dn D)), some (vZ 0), some (vZ 1), some (vZ (dq D 0)), some (vZ (dq D (dn D - 1)))] [vL ((sQL σ b (lN r) (lN y)).2 b 4), vR 0 b] (sQL σ b (lN r) (lN y)) post from ⟨(by omega), ?_⟩)
        rw [sQL_g4]
        show V 1 MX0_serve 94 [some (vR 0 b), some (vZ 2), some (vZ (dn D)), some (vZ 0), some (vZ 1), some (vZ (dq D 0)), some (vZ (dq D (dn D - 1)))] [vL (lN y), vR 0 b] (sQL σ b (lN r) (lN y)) post
        refine V_run kX0_serve 1 [] (show V 1 MX0_serve 97 [some (vR 0 b), some (vZ 2), some (vZ (dn D)), some (vZ 0), some (vZ 1), some (vZ (dq D 0)), some (vZ (dq D (dn D - 1)))] [] (uL (sQL σ b (lN r) (lN y)) b 4 (lN y)) post from ?_)
        rw [sQL_4]
        show V 1 MX0_serve 97 [some (vR 0 b), some (vZ 2), some (vZ (dn D)), some (vZ 0), some (vZ 1), some (vZ (dq D 0)), some (vZ (dq D (dn D - 1)))] [] (sQL σ b (lN r) (lN (y))) post
        refine V_run kX0_serve 6 [0] (show (zr 1 ∧ ¬ 1 = 0) ∧ V 1 MX0_serve 109 [some (vR 0 b), some (vZ 2), some (vZ (dn D)), some (vZ 0), some (vZ 1), some (vZ (dq D 0)), some (vZ (dq D (dn D - 1)))] [vZ (dq D (dn D - 1)), vL ((sQL σ b (lN r) (lN (y))).2 b 4), vR 0 b] (sQL σ b (lN r) (lN (y))) post from ⟨(by omega), ?_⟩)
        rw [sQL_g4]
        show V 1 MX0_serve 109 [some (vR 0 b), some (vZ 2), some (vZ (dn D)), some (vZ 0), some (vZ 1), some (vZ (dq D 0)), some (vZ (dq D (dn D - 1)))] [vZ (dq D (dn D - 1)), vL (lN (y)), vR 0 b] (sQL σ b (lN r) (lN (y))) post
        have hyl2 := hyl
        refine V_callS (a := [vL (lN (y)), vZ (dq D (dn D - 1))]) (rest := [vR 0 b]) kX0_serve rfl oX1_lowered iX1_lowered lk_0_99 rfl rfl (Nat.le_of_ble_eq_true rfl) (Nat.le_of_ble_eq_true rfl) (Nat.le_of_ble_eq_true rfl) (post' := fun zv zσ => V 1 MX0_serve 112 [some (vR 0 b), some (vZ 2), some (vZ (dn D)), some (vZ 0), some (vZ 1), some (vZ (dq D 0)), some (vZ (dq D (dn D - 1)))] (zv.toList ++ [vR 0 b]) zσ post) (c_lowered hy1 (by omega) (by omega) (by omega) ((show V 1 MX0_serve 112 [some (vR 0 b), some (vZ 2), some (vZ (dn D)), some (vZ 0), some (vZ 1), some (vZ (dq D 0)), some (vZ (dq D (dn D - 1)))] [vL (lN (rRep (y) (dq D (dn D - 1)) (dgt (y) (dq D (dn D - 1)) - 1))), vR 0 b] (sQL σ b (lN r) (lN (y))) post from ?_))) (fun _ _ h => h)
        refine V_run kX0_serve 2 [] (show V 1 MX0_serve 122 [some (vR 0 b), some (vZ 2), some (vZ (dn D)), some (vZ 0), some (vZ 1), some (vZ (dq D 0)), some (vZ (dq D (dn D - 1)))] [] (uL (sQL σ b (lN r) (lN (y))) b 4 (lN (rRep (y) (dq D (dn D - 1)) (dgt (y) (dq D (dn D - 1)) - 1)))) post from ?_)
        rw [sQL_4]
        show V 1 MX0_serve 122 [some (vR 0 b), some (vZ 2), some (vZ (dn D)), some (vZ 0), some (vZ 1), some (vZ (dq D 0)), some (vZ (dq D (dn D - 1)))] [] (sQL σ b (lN r) (lN (rRep (y) (dq D (dn D - 1)) (dgt (y) (dq D (dn D - 1)) - 1)))) post
        have hR1 : zRl (rRep (y) (dq D (dn D - 1)) (dgt (y) (dq D (dn D - 1)) - 1)) (dSe C t D) := hR
        have hzl : dgt (rRep (y) (dq D (dn D - 1)) (dgt (y) (dq D (dn D - 1)) - 1)) (dq D (dn D - 1)) = lSe C t D (dq D (dn D - 1)) := hR1.2 _ (by omega) (by omega)
        have hlr := fun k => lSe_rng (t := t) hJ k
        have hlf := hlr (dq D 0)
        have hll := hlr (dq D (dn D - 1))
        refine V_run kX0_serve 5 [0] (show (zr 1 ∧ ¬ 1 = 0) ∧ V 1 MX0_serve 133 [some (vR 0 b), some (vZ 2), some (vZ (dn D)), some (vZ 0), some (vZ 1), some (vZ (dq D 0)), some (vZ (dq D (dn D - 1)))] [vZ (dq D (dn D - 1)), vL ((sQL σ b (lN r) (lN (rRep (y) (dq D (dn D - 1)) (dgt (y) (dq D (dn D - 1)) - 1)))).2 b 4)] (sQL σ b (lN r) (lN (rRep (y) (dq D (dn D - 1)) (dgt (y) (dq D (dn D - 1)) - 1)))) post from ⟨(by omega), ?_⟩)
        rw [sQL_g4]
        show V 1 MX0_serve 133 [some (vR 0 b), some (vZ 2), some (vZ (dn D)), some (vZ 0), some (vZ 1), some (vZ (dq D 0)), some (vZ (dq D (dn D - 1)))] [vZ (dq D (dn D - 1)), vL (lN (rRep (y) (dq D (dn D - 1)) (dgt (y) (dq D (dn D - 1)) - 1)))] (sQL σ b (lN r) (lN (rRep (y) (dq D (dn D - 1)) (dgt (y) (dq D (dn D - 1)) - 1)))) post
        refine V_callS (a := [vL (lN (rRep (y) (dq D (dn D - 1)) (dgt (y) (dq D (dn D - 1)) - 1))), vZ (dq D (dn D - 1))]) (rest := []) kX0_serve rfl oX1_digit iX1_digit lk_0_96 rfl rfl (Nat.le_of_ble_eq_true rfl) (Nat.le_of_ble_eq_true rfl) (Nat.le_of_ble_eq_true rfl) (post' := fun zv zσ => V 1 MX0_serve 136 [some (vR 0 b), some (vZ 2), some (vZ (dn D)), some (vZ 0), some (vZ 1), some (vZ (dq D 0)), some (vZ (dq D (dn D - 1)))] (zv.toList ++ []) zσ post) (c_digit hR1.1 (by omega) (by omega) ((show V 1 MX0_serve 136 [some (vR 0 b), some (vZ 2), some (vZ (dn D)), some (vZ 0), some (vZ 1), some (vZ (dq D 0)), some (vZ (dq D (dn D - 1)))] [vZ (dgt (rRep (y) (dq D (dn D - 1)) (dgt (y) (dq D (dn D - 1)) - 1)) (dq D (dn D - 1)))] (sQL σ b (lN r) (lN (rRep (y) (dq D (dn D - 1)) (dgt (y) (dq D (dn D - 1)) - 1)))) post from ?_))) (fun _ _ h => h)
        refine V_top (hzl) ?_
        by_cases hcb : lSe C t D (dq D (dn D - 1)) = 0
        · skip
          have hsB : sBk C t D = true := sBk_i.mpr ⟨hB, hcb⟩
          rw [hsB] at hQ
          refine V_run kX0_serve 7 [0] (show (zr (lSe C t D (dq D (dn D - 1))) ∧ (lSe C t D (dq D (dn D - 1))) = 0) ∧ V 1 MX0_serve 147 [some (vR 0 b), some (vZ 2), some (vZ (dn D)), some (vZ 0), some (vZ 1), some (vZ (dq D 0)), some (vZ (dq D (dn D - 1)))] [vZ ((dn D) - 1), vL ((sQL σ b (lN r) (lN (rRep (y) (dq D (dn D - 1)) (dgt (y) (dq D (dn D - 1)) - 1)))).2 b 3), vR 0 b] (sQL σ b (lN r) (lN (rRep (y) (dq D (dn D - 1)) (dgt (y) (dq D (dn D - 1)) - 1)))) post from ⟨(by omega), ?_⟩)
          rw [sQL_g3]
          show V 1 MX0_serve 147 [some (vR 0 b), some (vZ 2), some (vZ (dn D)), some (vZ 0), some (vZ 1), some (vZ (dq D 0)), some (vZ (dq D (dn D - 1)))] [vZ ((dn D) - 1), vL (lN r), vR 0 b] (sQL σ b (lN r) (lN (rRep (y) (dq D (dn D - 1)) (dgt (y) (dq D (dn D - 1)) - 1)))) post
          refine V_callS (a := [vL (lN r), vZ ((dn D) - 1)]) (rest := [vR 0 b]) kX0_serve rfl oX1_removed iX1_removed lk_0_74 rfl rfl (Nat.le_of_ble_eq_true rfl) (Nat.le_of_ble_eq_true rfl) (Nat.le_of_ble_eq_true rfl) (post' := fun zv zσ => V 1 MX0_serve 150 [some (vR 0 b), some (vZ 2), some (vZ (dn D)), some (vZ 0), some (vZ 1), some (vZ (dq D 0)), some (vZ (dq D (dn D - 1)))] (zv.toList ++ [vR 0 b]) zσ post) (c_removed hq.1 (by omega) (by omega) ((show V 1 MX0_serve 150 [some (vR 0 b), some (vZ 2), some (vZ (dn D)), some (vZ 0), some (vZ 1), some (vZ (dq D 0)), some (vZ (dq D (dn D - 1)))] [vL (lN (rRem r (dn D - 1))), vR 0 b] (sQL σ b (lN r) (lN (rRep (y) (dq D (dn D - 1)) (dgt (y) (dq D (dn D - 1)) - 1)))) post from ?_))) (fun _ _ h => h)
          refine V_run kX0_serve 1 [] (show V 1 MX0_serve 153 [some (vR 0 b), some (vZ 2), some (vZ (dn D)), some (vZ 0), some (vZ 1), some (vZ (dq D 0)), some (vZ (dq D (dn D - 1)))] [] (uL (sQL σ b (lN r) (lN (rRep (y) (dq D (dn D - 1)) (dgt (y) (dq D (dn D - 1)) - 1)))) b 3 (lN (rRem r (dn D - 1)))) post from ?_)
          rw [sQL_3]
          show V 1 MX0_serve 153 [some (vR 0 b), some (vZ 2), some (vZ (dn D)), some (vZ 0), some (vZ 1), some (vZ (dq D 0)), some (vZ (dq D (dn D - 1)))] [] (sQL σ b (lN (rRem r (dn D - 1))) (lN (rRep (y) (dq D (dn D - 1)) (dgt (y) (dq D (dn D - 1)) - 1)))) post
          refine V_run kX0_serve 2 [1] (show (zr 0 ∧ 0 = 0) ∧ V 1 MX0_serve 181 [some (vR 0 b), some (vZ 2), some (vZ (dn D)), some (vZ 0), some (vZ 1), some (vZ (dq D 0)), some (vZ (dq D (dn D - 1)))] [] (sQL σ b (lN (rRem r (dn D - 1))) (lN (rRep (y) (dq D (dn D - 1)) (dgt (y) (dq D (dn D - 1)) - 1)))) post from ⟨(by omega), ?_⟩)
          exact V_vret kX0_serve rfl rfl (hp _ _ hQ hR1)
        · skip
          have hsB : sBk C t D = false := by rw [← Bool.not_eq_true]; exact fun q => hcb (sBk_i.mp q).2
          rw [hsB] at hQ
          refine V_run kX0_serve 1 [1] (show (zr (lSe C t D (dq D (dn D - 1))) ∧ ¬ (lSe C t D (dq D (dn D - 1))) = 0) ∧ V 1 MX0_serve 153 [some (vR 0 b), some (vZ 2), some (vZ (dn D)), some (vZ 0), some (vZ 1), some (vZ (dq D 0)), some (vZ (dq D (dn D - 1)))] [] (sQL σ b (lN r) (lN (rRep (y) (dq D (dn D - 1)) (dgt (y) (dq D (dn D - 1)) - 1)))) post from ⟨(by omega), ?_⟩)
          refine V_run kX0_serve 2 [1] (show (zr 0 ∧ 0 = 0) ∧ V 1 MX0_serve 181 [some (vR 0 b), some (vZ 2), some (vZ (dn D)), some (vZ 0), some (vZ 1), some (vZ (dq D 0)), some (vZ (dq D (dn D - 1)))] [] (sQL σ b (lN r) (lN (rRep (y) (dq D (dn D - 1)) (dgt (y) (dq D (dn D - 1)) - 1)))) post from ⟨(by omega), ?_⟩)
          exact V_vret kX0_serve rfl rfl (hp _ _ hQ hR1)
      replace hw : cWi C t = 3 := by omega
      by_cases hn1 : dn D = 1
      · skip
        have hF : wFr C t D = true := by exact wFr_i.mpr ⟨by omega, by omega⟩
        have hB : wBk C t D = false := by rw [← Bool.not_eq_true]; intro q; have := (wBk_i.mp q).2; omega
        rw [hF, hB] at hR
        have hsB : sBk C t D = false := by rw [← Bool.not_eq_true]; intro q; rw [(sBk_i.mp q).1] at hB; cases hB
        rw [hsB] at hQ
        rw [hw]
        show V 1 MX0_serve 13 [some (vR 0 b), some (vZ 3), some (vZ (dn D)), none, none, none, none] [] (sQL σ b (lN r) (lN y)) post
        refine V_run kX0_serve 21 [0, 0, 0, 1] (show (zr (zand 3 1) ∧ ¬ (zand 3 1) = 0) ∧ (zr (zand 3 2) ∧ ¬ (zand 3 2) = 0) ∧ (zr 1 ∧ ¬ 1 = 0) ∧ (zr (dn D) ∧ zr 1 ∧ (dn D) = 1) ∧ V 1 MX0_serve 52 [some (vR 0 b), some (vZ 3), some (vZ (dn D)), some (vZ 1), some (vZ 0), none, none] [vZ 0, vL ((sQL σ b (lN r) (lN y)).2 b 3)] (sQL σ b (lN r) (lN y)) post from ⟨(by decide), (by decide), (by omega), (by omega), ?_⟩)
        rw [sQL_g3]
        show V 1 MX0_serve 52 [some (vR 0 b), some (vZ 3), some (vZ (dn D)), some (vZ 1), some (vZ 0), none, none] [vZ 0, vL (lN r)] (sQL σ b (lN r) (lN y)) post
        refine V_callS (a := [vL (lN r), vZ 0]) (rest := []) kX0_serve rfl oX1_digit iX1_digit lk_0_96 rfl rfl (Nat.le_of_ble_eq_true rfl) (Nat.le_of_ble_eq_true rfl) (Nat.le_of_ble_eq_true rfl) (post' := fun zv zσ => V 1 MX0_serve 55 [some (vR 0 b), some (vZ 3), some (vZ (dn D)), some (vZ 1), some (vZ 0), none, none] (zv.toList ++ []) zσ post) (c_digit hq.1 (by omega) (by omega) ((show V 1 MX0_serve 55 [some (vR 0 b), some (vZ 3), some (vZ (dn D)), some (vZ 1), some (vZ 0), none, none] [vZ (dgt r 0)] (sQL σ b (lN r) (lN y)) post from ?_))) (fun _ _ h => h)
        refine V_run kX0_serve 2 [] (show V 1 MX0_serve 57 [some (vR 0 b), some (vZ 3), some (vZ (dn D)), some (vZ 1), some (vZ 0), none, none] [vZ ((dgt r 0) - 1)] (sQL σ b (lN r) (lN y)) post from ?_)
        refine V_top (show dgt r 0 - 1 = dq D 0 by omega) ?_
        refine V_run kX0_serve 6 [] (show V 1 MX0_serve 66 [some (vR 0 b), some (vZ 3), some (vZ (dn D)), some (vZ 1), some (vZ 0), some (vZ (dq D 0)), none] [vZ ((dn D) - 1), vL ((sQL σ b (lN r) (lN y)).2 b 3)] (sQL σ b (lN r) (lN y)) post from ?_)
        rw [sQL_g3]
        show V 1 MX0_serve 66 [some (vR 0 b), some (vZ 3), some (vZ (dn D)), some (vZ 1), some (vZ 0), some (vZ (dq D 0)), none] [vZ ((dn D) - 1), vL (lN r)] (sQL σ b (lN r) (lN y)) post
        refine V_callS (a := [vL (lN r), vZ ((dn D) - 1)]) (rest := []) kX0_serve rfl oX1_digit iX1_digit lk_0_96 rfl rfl (Nat.le_of_ble_eq_true rfl) (Nat.le_of_ble_eq_true rfl) (Nat.le_of_ble_eq_true rfl) (post' := fun zv zσ => V 1 MX0_serve 69 [some (vR 0 b), some (vZ 3), some (vZ (dn D)), some (vZ 1), some (vZ 0), some (vZ (dq D 0)), none] (zv.toList ++ []) zσ post) (c_digit hq.1 (by omega) (by omega) ((show V 1 MX0_serve 69 [some (vR 0 b), some (vZ 3), some (vZ (dn D)), some (vZ 1), some (vZ 0), some (vZ (dq D 0)), none] [vZ (dgt r (dn D - 1))] (sQL σ b (lN r) (lN y)) post from ?_))) (fun _ _ h => h)
        refine V_run kX0_serve 2 [] (show V 1 MX0_serve 71 [some (vR 0 b), some (vZ 3), some (vZ (dn D)), some (vZ 1), some (vZ 0), some (vZ (dq D 0)), none] [vZ ((dgt r (dn D - 1)) - 1)] (sQL σ b (lN r) (lN y)) post from ?_)
        refine V_top (show dgt r (dn D - 1) - 1 = dq D (dn D - 1) by omega) ?_
        refine V_run kX0_serve 7 [0] (show (zr 1 ∧ ¬ 1 = 0) ∧ V 1 MX0_serve 84 [some (vR 0 b), some (vZ 3), some (vZ (dn D)), some (vZ 1), some (vZ 0), some (vZ (dq D 0)), some (vZ (dq D (dn D - 1)))] [vZ (dq D 0), vL ((sQL σ b (lN r) (lN y)).2 b 4), vR 0 b] (sQL σ b (lN r) (lN y)) post from ⟨(by omega), ?_⟩)
        rw [sQL_g4]
        show V 1 MX0_serve 84 [some (vR 0 b), some (vZ 3), some (vZ (dn D)), some (vZ 1), some (vZ 0), some (vZ (dq D 0)), some (vZ (dq D (dn D - 1)))] [vZ (dq D 0), vL (lN y), vR 0 b] (sQL σ b (lN r) (lN y)) post
        refine V_callS (a := [vL (lN y), vZ (dq D 0)]) (rest := [vR 0 b]) kX0_serve rfl oX1_lowered iX1_lowered lk_0_99 rfl rfl (Nat.le_of_ble_eq_true rfl) (Nat.le_of_ble_eq_true rfl) (Nat.le_of_ble_eq_true rfl) (post' := fun zv zσ => V 1 MX0_serve 87 [some (vR 0 b), some (vZ 3), some (vZ (dn D)), some (vZ 1), some (vZ 0), some (vZ (dq D 0)), some (vZ (dq D (dn D - 1)))] (zv.toList ++ [vR 0 b]) zσ post) (c_lowered hl.1 (by omega) (by omega) (by omega) ((show V 1 MX0_serve 87 [some (vR 0 b), some (vZ 3), some (vZ (dn D)), some (vZ 1), some (vZ 0), some (vZ (dq D 0)), some (vZ (dq D (dn D - 1)))] [vL (lN (rRep y (dq D 0) (dgt y (dq D 0) - 1))), vR 0 b] (sQL σ b (lN r) (lN y)) post from ?_))) (fun _ _ h => h)
        have hy1 : (rRep y (dq D 0) (dgt y (dq D 0) - 1)) < 16 ^ 12 := rRep_lt hl.1 (by omega) (by omega) (by omega) (by omega)
        have hyd : ∀ k : Int, 0 ≤ k → dgt (rRep y (dq D 0) (dgt y (dq D 0) - 1)) k = if k = dq D 0 then dgt y (dq D 0) - 1 else dgt y k := fun k a => dgt_rRep (by omega) (by omega) (by omega) a
        refine V_run kX0_serve 2 [] (show V 1 MX0_serve 97 [some (vR 0 b), some (vZ 3), some (vZ (dn D)), some (vZ 1), some (vZ 0), some (vZ (dq D 0)), some (vZ (dq D (dn D - 1)))] [] (uL (sQL σ b (lN r) (lN y)) b 4 (lN (rRep y (dq D 0) (dgt y (dq D 0) - 1)))) post from ?_)
        rw [sQL_4]
        show V 1 MX0_serve 97 [some (vR 0 b), some (vZ 3), some (vZ (dn D)), some (vZ 1), some (vZ 0), some (vZ (dq D 0)), some (vZ (dq D (dn D - 1)))] [] (sQL σ b (lN r) (lN (rRep y (dq D 0) (dgt y (dq D 0) - 1)))) post
        refine V_run kX0_serve 5 [1] (show (zr 0 ∧ 0 = 0) ∧ V 1 MX0_serve 119 [some (vR 0 b), some (vZ 3), some (vZ (dn D)), some (vZ 1), some (vZ 0), some (vZ (dq D 0)), some (vZ (dq D (dn D - 1)))] [vL ((sQL σ b (lN r) (lN (rRep y (dq D 0) (dgt y (dq D 0) - 1)))).2 b 4), vR 0 b] (sQL σ b (lN r) (lN (rRep y (dq D 0) (dgt y (dq D 0) - 1)))) post from ⟨(by omega), ?_⟩)
        rw [sQL_g4]
        show V 1 MX0_serve 119 [some (vR 0 b), some (vZ 3), some (vZ (dn D)), some (vZ 1), some (vZ 0), some (vZ (dq D 0)), some (vZ (dq D (dn D - 1)))] [vL (lN (rRep y (dq D 0) (dgt y (dq D 0) - 1))), vR 0 b] (sQL σ b (lN r) (lN (rRep y (dq D 0) (dgt y (dq D 0) - 1)))) post
        refine V_run kX0_serve 1 [] (show V 1 MX0_serve 122 [some (vR 0 b), some (vZ 3), some (vZ (dn D)), some (vZ 1), some (vZ 0), some (vZ (dq D 0)), some (vZ (dq D (dn D - 1)))] [] (uL (sQL σ b (lN r) (lN (rRep y (dq D 0) (dgt y (dq D 0) - 1)))) b 4 (lN (rRep y (dq D 0) (dgt y (dq D 0) - 1)))) post from ?_)
        rw [sQL_4]
        show V 1 MX0_serve 122 [some (vR 0 b), some (vZ 3), some (vZ (dn D)), some (vZ 1), some (vZ 0), some (vZ (dq D 0)), some (vZ (dq D (dn D - 1)))] [] (sQL σ b (lN r) (lN (rRep y (dq D 0) (dgt y (dq D 0) - 1)))) post
        have hR1 : zRl (rRep y (dq D 0) (dgt y (dq D 0) - 1)) (dSe C t D) := hR
        have hzf : dgt (rRep y (dq D 0) (dgt y (dq D 0) - 1)) (dq D 0) = lSe C t D (dq D 0) := hR1.2 _ (by omega) (by omega)
        have hlr := fun k => lSe_rng (t := t) hJ k
        have hlf := hlr (dq D 0)
        have hll := hlr (dq D (dn D - 1))
        refine V_run kX0_serve 7 [1, 0] (show (zr 0 ∧ 0 = 0) ∧ (zr 1 ∧ ¬ 1 = 0) ∧ V 1 MX0_serve 163 [some (vR 0 b), some (vZ 3), some (vZ (dn D)), some (vZ 1), some (vZ 0), some (vZ (dq D 0)), some (vZ (dq D (dn D - 1)))] [vZ (dq D 0), vL ((sQL σ b (lN r) (lN (rRep y (dq D 0) (dgt y (dq D 0) - 1)))).2 b 4)] (sQL σ b (lN r) (lN (rRep y (dq D 0) (dgt y (dq D 0) - 1)))) post from ⟨(by omega), (by omega), ?_⟩)
        rw [sQL_g4]
        show V 1 MX0_serve 163 [some (vR 0 b), some (vZ 3), some (vZ (dn D)), some (vZ 1), some (vZ 0), some (vZ (dq D 0)), some (vZ (dq D (dn D - 1)))] [vZ (dq D 0), vL (lN (rRep y (dq D 0) (dgt y (dq D 0) - 1)))] (sQL σ b (lN r) (lN (rRep y (dq D 0) (dgt y (dq D 0) - 1)))) post
        refine V_callS (a := [vL (lN (rRep y (dq D 0) (dgt y (dq D 0) - 1))), vZ (dq D 0)]) (rest := []) kX0_serve rfl oX1_digit iX1_digit lk_0_96 rfl rfl (Nat.le_of_ble_eq_true rfl) (Nat.le_of_ble_eq_true rfl) (Nat.le_of_ble_eq_true rfl) (post' := fun zv zσ => V 1 MX0_serve 166 [some (vR 0 b), some (vZ 3), some (vZ (dn D)), some (vZ 1), some (vZ 0), some (vZ (dq D 0)), some (vZ (dq D (dn D - 1)))] (zv.toList ++ []) zσ post) (c_digit hR1.1 (by omega) (by omega) ((show V 1 MX0_serve 166 [some (vR 0 b), some (vZ 3), some (vZ (dn D)), some (vZ 1), some (vZ 0), some (vZ (dq D 0)), some (vZ (dq D (dn D - 1)))] [vZ (dgt (rRep y (dq D 0) (dgt y (dq D 0) - 1)) (dq D 0))] (sQL σ b (lN r) (lN (rRep y (dq D 0) (dgt y (dq D 0) - 1)))) post from ?_))) (fun _ _ h => h)
        refine V_top (hzf) ?_
        by_cases hcf : lSe C t D (dq D 0) = 0
        · skip
          have hsF : sFr C t D = true := sFr_i.mpr ⟨hF, hcf⟩
          rw [hsF] at hQ
          refine V_run kX0_serve 5 [0] (show (zr (lSe C t D (dq D 0)) ∧ (lSe C t D (dq D 0)) = 0) ∧ V 1 MX0_serve 175 [some (vR 0 b), some (vZ 3), some (vZ (dn D)), some (vZ 1), some (vZ 0), some (vZ (dq D 0)), some (vZ (dq D (dn D - 1)))] [vZ 0, vL ((sQL σ b (lN r) (lN (rRep y (dq D 0) (dgt y (dq D 0) - 1)))).2 b 3), vR 0 b] (sQL σ b (lN r) (lN (rRep y (dq D 0) (dgt y (dq D 0) - 1)))) post from ⟨(by omega), ?_⟩)
          rw [sQL_g3]
          show V 1 MX0_serve 175 [some (vR 0 b), some (vZ 3), some (vZ (dn D)), some (vZ 1), some (vZ 0), some (vZ (dq D 0)), some (vZ (dq D (dn D - 1)))] [vZ 0, vL (lN (r)), vR 0 b] (sQL σ b (lN r) (lN (rRep y (dq D 0) (dgt y (dq D 0) - 1)))) post
          have hrr : (r) < 16 ^ 12 := hq.1
          refine V_callS (a := [vL (lN (r)), vZ 0]) (rest := [vR 0 b]) kX0_serve rfl oX1_removed iX1_removed lk_0_74 rfl rfl (Nat.le_of_ble_eq_true rfl) (Nat.le_of_ble_eq_true rfl) (Nat.le_of_ble_eq_true rfl) (post' := fun zv zσ => V 1 MX0_serve 178 [some (vR 0 b), some (vZ 3), some (vZ (dn D)), some (vZ 1), some (vZ 0), some (vZ (dq D 0)), some (vZ (dq D (dn D - 1)))] (zv.toList ++ [vR 0 b]) zσ post) (c_removed hrr (by omega) (by omega) ((show V 1 MX0_serve 178 [some (vR 0 b), some (vZ 3), some (vZ (dn D)), some (vZ 1), some (vZ 0), some (vZ (dq D 0)), some (vZ (dq D (dn D - 1)))] [vL (lN (rRem (r) 0)), vR 0 b] (sQL σ b (lN r) (lN (rRep y (dq D 0) (dgt y (dq D 0) - 1)))) post from ?_))) (fun _ _ h => h)
          refine V_run kX0_serve 1 [] (show V 1 MX0_serve 181 [some (vR 0 b), some (vZ 3), some (vZ (dn D)), some (vZ 1), some (vZ 0), some (vZ (dq D 0)), some (vZ (dq D (dn D - 1)))] [] (uL (sQL σ b (lN r) (lN (rRep y (dq D 0) (dgt y (dq D 0) - 1)))) b 3 (lN (rRem (r) 0))) post from ?_)
          rw [sQL_3]
          show V 1 MX0_serve 181 [some (vR 0 b), some (vZ 3), some (vZ (dn D)), some (vZ 1), some (vZ 0), some (vZ (dq D 0)), some (vZ (dq D (dn D - 1)))] [] (sQL σ b (lN (rRem (r) 0)) (lN (rRep y (dq D 0) (dgt y (dq D 0) - 1)))) post
          exact V_vret kX0_serve rfl rfl (hp _ _ hQ hR1)
        · skip
          have hsF : sFr C t D = false := by rw [← Bool.not_eq_true]; exact fun q => hcf (sFr_i.mp q).2
          rw [hsF] at hQ
          refine V_run kX0_serve 1 [1] (show (zr (lSe C t D (dq D 0)) ∧ ¬ (lSe C t D (dq D 0)) = 0) ∧ V 1 MX0_serve 181 [some (vR 0 b), some (vZ 3), some (vZ (dn D)), some (vZ 1), some (vZ 0), some (vZ (dq D 0)), some (vZ (dq D (dn D - 1)))] [] (sQL σ b (lN r) (lN (rRep y (dq D 0) (dgt y (dq D 0) - 1)))) post from ⟨(by omega), ?_⟩)
          exact V_vret kX0_serve rfl rfl (hp _ _ hQ hR1)
      · skip
        have hF : wFr C t D = true := by exact wFr_i.mpr ⟨by omega, by omega⟩
        have hB : wBk C t D = true := by exact wBk_i.mpr ⟨by omega, by omega⟩
        rw [hF, hB] at hR
        have hone := lSe_one hJ hF hB
        rw [hw]
        show V 1 MX0_serve 13 [some (vR 0 b), some (vZ 3), some (vZ (dn D)), none, none, none, none] [] (sQL σ b (lN r) (lN y)) post
        refine V_run kX0_serve 22 [0, 0, 0, 0] (show (zr (zand 3 1) ∧ ¬ (zand 3 1) = 0) ∧ (zr (zand 3 2) ∧ ¬ (zand 3 2) = 0) ∧ (zr 1 ∧ ¬ 1 = 0) ∧ (zr (dn D) ∧ zr 1 ∧ ¬ (dn D) = 1) ∧ V 1 MX0_serve 52 [some (vR 0 b), some (vZ 3), some (vZ (dn D)), some (vZ 1), some (vZ 1), none, none] [vZ 0, vL ((sQL σ b (lN r) (lN y)).2 b 3)] (sQL σ b (lN r) (lN y)) post from ⟨(by decide), (by decide), (by omega), (by omega), ?_⟩)
        rw [sQL_g3]
        show V 1 MX0_serve 52 [some (vR 0 b), some (vZ 3), some (vZ (dn D)), some (vZ 1), some (vZ 1), none, none] [vZ 0, vL (lN r)] (sQL σ b (lN r) (lN y)) post
        refine V_callS (a := [vL (lN r), vZ 0]) (rest := []) kX0_serve rfl oX1_digit iX1_digit lk_0_96 rfl rfl (Nat.le_of_ble_eq_true rfl) (Nat.le_of_ble_eq_true rfl) (Nat.le_of_ble_eq_true rfl) (post' := fun zv zσ => V 1 MX0_serve 55 [some (vR 0 b), some (vZ 3), some (vZ (dn D)), some (vZ 1), some (vZ 1), none, none] (zv.toList ++ []) zσ post) (c_digit hq.1 (by omega) (by omega) ((show V 1 MX0_serve 55 [some (vR 0 b), some (vZ 3), some (vZ (dn D)), some (vZ 1), some (vZ 1), none, none] [vZ (dgt r 0)] (sQL σ b (lN r) (lN y)) post from ?_))) (fun _ _ h => h)
        refine V_run kX0_serve 2 [] (show V 1 MX0_serve 57 [some (vR 0 b), some (vZ 3), some (vZ (dn D)), some (vZ 1), some (vZ 1), none, none] [vZ ((dgt r 0) - 1)] (sQL σ b (lN r) (lN y)) post from ?_)
        refine V_top (show dgt r 0 - 1 = dq D 0 by omega) ?_
        refine V_run kX0_serve 6 [] (show V 1 MX0_serve 66 [some (vR 0 b), some (vZ 3), some (vZ (dn D)), some (vZ 1), some (vZ 1), some (vZ (dq D 0)), none] [vZ ((dn D) - 1), vL ((sQL σ b (lN r) (lN y)).2 b 3)] (sQL σ b (lN r) (lN y)) post from ?_)
        rw [sQL_g3]
        show V 1 MX0_serve 66 [some (vR 0 b), some (vZ 3), some (vZ (dn D)), some (vZ 1), some (vZ 1), some (vZ (dq D 0)), none] [vZ ((dn D) - 1), vL (lN r)] (sQL σ b (lN r) (lN y)) post
        refine V_callS (a := [vL (lN r), vZ ((dn D) - 1)]) (rest := []) kX0_serve rfl oX1_digit iX1_digit lk_0_96 rfl rfl (Nat.le_of_ble_eq_true rfl) (Nat.le_of_ble_eq_true rfl) (Nat.le_of_ble_eq_true rfl) (post' := fun zv zσ => V 1 MX0_serve 69 [some (vR 0 b), some (vZ 3), some (vZ (dn D)), some (vZ 1), some (vZ 1), some (vZ (dq D 0)), none] (zv.toList ++ []) zσ post) (c_digit hq.1 (by omega) (by omega) ((show V 1 MX0_serve 69 [some (vR 0 b), some (vZ 3), some (vZ (dn D)), some (vZ 1), some (vZ 1), some (vZ (dq D 0)), none] [vZ (dgt r (dn D - 1))] (sQL σ b (lN r) (lN y)) post from ?_))) (fun _ _ h => h)
        refine V_run kX0_serve 2 [] (show V 1 MX0_serve 71 [some (vR 0 b), some (vZ 3), some (vZ (dn D)), some (vZ 1), some (vZ 1), some (vZ (dq D 0)), none] [vZ ((dgt r (dn D - 1)) - 1)] (sQL σ b (lN r) (lN y)) post from ?_)
        refine V_top (show dgt r (dn D - 1) - 1 = dq D (dn D - 1) by omega) ?_
        refine V_run kX0_serve 7 [0] (show (zr 1 ∧ ¬ 1 = 0) ∧ V 1 MX0_serve 84 [some (vR 0 b), some (vZ 3), some (vZ (dn D)), some (vZ 1), some (vZ 1), some (vZ (dq D 0)), some (vZ (dq D (dn D - 1)))] [vZ (dq D 0), vL ((sQL σ b (lN r) (lN y)).2 b 4), vR 0 b] (sQL σ b (lN r) (lN y)) post from ⟨(by omega), ?_⟩)
        rw [sQL_g4]
        show V 1 MX0_serve 84 [some (vR 0 b), some (vZ 3), some (vZ (dn D)), some (vZ 1), some (vZ 1), some (vZ (dq D 0)), some (vZ (dq D (dn D - 1)))] [vZ (dq D 0), vL (lN y), vR 0 b] (sQL σ b (lN r) (lN y)) post
        refine V_callS (a := [vL (lN y), vZ (dq D 0)]) (rest := [vR 0 b]) kX0_serve rfl oX1_lowered iX1_lowered lk_0_99 rfl rfl (Nat.le_of_ble_eq_true rfl) (Nat.le_of_ble_eq_true rfl) (Nat.le_of_ble_eq_true rfl) (post' := fun zv zσ => V 1 MX0_serve 87 [some (vR 0 b), some (vZ 3), some (vZ (dn D)), some (vZ 1), some (vZ 1), some (vZ (dq D 0)), some (vZ (dq D (dn D - 1)))] (zv.toList ++ [vR 0 b]) zσ post) (c_lowered hl.1 (by omega) (by omega) (by omega) ((show V 1 MX0_serve 87 [some (vR 0 b), some (vZ 3), some (vZ (dn D)), some (vZ 1), some (vZ 1), some (vZ (dq D 0)), some (vZ (dq D (dn D - 1)))] [vL (lN (rRep y (dq D 0) (dgt y (dq D 0) - 1))), vR 0 b] (sQL σ b (lN r) (lN y)) post from ?_))) (fun _ _ h => h)
        have hy1 : (rRep y (dq D 0) (dgt y (dq D 0) - 1)) < 16 ^ 12 := rRep_lt hl.1 (by omega) (by omega) (by omega) (by omega)
        have hyd : ∀ k : Int, 0 ≤ k → dgt (rRep y (dq D 0) (dgt y (dq D 0) - 1)) k = if k = dq D 0 then dgt y (dq D 0) - 1 else dgt y k := fun k a => dgt_rRep (by omega) (by omega) (by omega) a
        refine V_run kX0_serve 2 [] (show V 1 MX0_serve 97 [some (vR 0 b), some (vZ 3), some (vZ (dn D)), some (vZ 1), some (vZ 1), some (vZ (dq D 0)), some (vZ (dq D (dn D - 1)))] [] (uL (sQL σ b (lN r) (lN y)) b 4 (lN (rRep y (dq D 0) (dgt y (dq D 0) - 1)))) post from ?_)
        rw [sQL_4]
        show V 1 MX0_serve 97 [some (vR 0 b), some (vZ 3), some (vZ (dn D)), some (vZ 1), some (vZ 1), some (vZ (dq D 0)), some (vZ (dq D (dn D - 1)))] [] (sQL σ b (lN r) (lN (rRep y (dq D 0) (dgt y (dq D 0) - 1)))) post
        refine V_run kX0_serve 6 [0] (show (zr 1 ∧ ¬ 1 = 0) ∧ V 1 MX0_serve 109 [some (vR 0 b), some (vZ 3), some (vZ (dn D)), some (vZ 1), some (vZ 1), some (vZ (dq D 0)), some (vZ (dq D (dn D - 1)))] [vZ (dq D (dn D - 1)), vL ((sQL σ b (lN r) (lN (rRep y (dq D 0) (dgt y (dq D 0) - 1)))).2 b 4), vR 0 b] (sQL σ b (lN r) (lN (rRep y (dq D 0) (dgt y (dq D 0) - 1)))) post from ⟨(by omega), ?_⟩)
        rw [sQL_g4]
        show V 1 MX0_serve 109 [some (vR 0 b), some (vZ 3), some (vZ (dn D)), some (vZ 1), some (vZ 1), some (vZ (dq D 0)), some (vZ (dq D (dn D - 1)))] [vZ (dq D (dn D - 1)), vL (lN (rRep y (dq D 0) (dgt y (dq D 0) - 1))), vR 0 b] (sQL σ b (lN r) (lN (rRep y (dq D 0) (dgt y (dq D 0) - 1)))) post
        have hyl2 : dgt (rRep y (dq D 0) (dgt y (dq D 0) - 1)) (dq D (dn D - 1)) = dl D (dq D (dn D - 1)) := by rw [hyd _ (by omega), if_neg (fun q => hone q.symm), hyl]
        refine V_callS (a := [vL (lN (rRep y (dq D 0) (dgt y (dq D 0) - 1))), vZ (dq D (dn D - 1))]) (rest := [vR 0 b]) kX0_serve rfl oX1_lowered iX1_lowered lk_0_99 rfl rfl (Nat.le_of_ble_eq_true rfl) (Nat.le_of_ble_eq_true rfl) (Nat.le_of_ble_eq_true rfl) (post' := fun zv zσ => V 1 MX0_serve 112 [some (vR 0 b), some (vZ 3), some (vZ (dn D)), some (vZ 1), some (vZ 1), some (vZ (dq D 0)), some (vZ (dq D (dn D - 1)))] (zv.toList ++ [vR 0 b]) zσ post) (c_lowered hy1 (by omega) (by omega) (by omega) ((show V 1 MX0_serve 112 [some (vR 0 b), some (vZ 3), some (vZ (dn D)), some (vZ 1), some (vZ 1), some (vZ (dq D 0)), some (vZ (dq D (dn D - 1)))] [vL (lN (rRep (rRep y (dq D 0) (dgt y (dq D 0) - 1)) (dq D (dn D - 1)) (dgt (rRep y (dq D 0) (dgt y (dq D 0) - 1)) (dq D (dn D - 1)) - 1))), vR 0 b] (sQL σ b (lN r) (lN (rRep y (dq D 0) (dgt y (dq D 0) - 1)))) post from ?_))) (fun _ _ h => h)
        refine V_run kX0_serve 2 [] (show V 1 MX0_serve 122 [some (vR 0 b), some (vZ 3), some (vZ (dn D)), some (vZ 1), some (vZ 1), some (vZ (dq D 0)), some (vZ (dq D (dn D - 1)))] [] (uL (sQL σ b (lN r) (lN (rRep y (dq D 0) (dgt y (dq D 0) - 1)))) b 4 (lN (rRep (rRep y (dq D 0) (dgt y (dq D 0) - 1)) (dq D (dn D - 1)) (dgt (rRep y (dq D 0) (dgt y (dq D 0) - 1)) (dq D (dn D - 1)) - 1)))) post from ?_)
        rw [sQL_4]
        show V 1 MX0_serve 122 [some (vR 0 b), some (vZ 3), some (vZ (dn D)), some (vZ 1), some (vZ 1), some (vZ (dq D 0)), some (vZ (dq D (dn D - 1)))] [] (sQL σ b (lN r) (lN (rRep (rRep y (dq D 0) (dgt y (dq D 0) - 1)) (dq D (dn D - 1)) (dgt (rRep y (dq D 0) (dgt y (dq D 0) - 1)) (dq D (dn D - 1)) - 1)))) post
        have hR1 : zRl (rRep (rRep y (dq D 0) (dgt y (dq D 0) - 1)) (dq D (dn D - 1)) (dgt (rRep y (dq D 0) (dgt y (dq D 0) - 1)) (dq D (dn D - 1)) - 1)) (dSe C t D) := hR
        have hzf : dgt (rRep (rRep y (dq D 0) (dgt y (dq D 0) - 1)) (dq D (dn D - 1)) (dgt (rRep y (dq D 0) (dgt y (dq D 0) - 1)) (dq D (dn D - 1)) - 1)) (dq D 0) = lSe C t D (dq D 0) := hR1.2 _ (by omega) (by omega)
        have hzl : dgt (rRep (rRep y (dq D 0) (dgt y (dq D 0) - 1)) (dq D (dn D - 1)) (dgt (rRep y (dq D 0) (dgt y (dq D 0) - 1)) (dq D (dn D - 1)) - 1)) (dq D (dn D - 1)) = lSe C t D (dq D (dn D - 1)) := hR1.2 _ (by omega) (by omega)
        have hlr := fun k => lSe_rng (t := t) hJ k
        have hlf := hlr (dq D 0)
        have hll := hlr (dq D (dn D - 1))
        refine V_run kX0_serve 5 [0] (show (zr 1 ∧ ¬ 1 = 0) ∧ V 1 MX0_serve 133 [some (vR 0 b), some (vZ 3), some (vZ (dn D)), some (vZ 1), some (vZ 1), some (vZ (dq D 0)), some (vZ (dq D (dn D - 1)))] [vZ (dq D (dn D - 1)), vL ((sQL σ b (lN r) (lN (rRep (rRep y (dq D 0) (dgt y (dq D 0) - 1)) (dq D (dn D - 1)) (dgt (rRep y (dq D 0) (dgt y (dq D 0) - 1)) (dq D (dn D - 1)) - 1)))).2 b 4)] (sQL σ b (lN r) (lN (rRep (rRep y (dq D 0) (dgt y (dq D 0) - 1)) (dq D (dn D - 1)) (dgt (rRep y (dq D 0) (dgt y (dq D 0) - 1)) (dq D (dn D - 1)) - 1)))) post from ⟨(by omega), ?_⟩)
        rw [sQL_g4]
        show V 1 MX0_serve 133 [some (vR 0 b), some (vZ 3), some (vZ (dn D)), some (vZ 1), some (vZ 1), some (vZ (dq D 0)), some (vZ (dq D (dn D - 1)))] [vZ (dq D (dn D - 1)), vL (lN (rRep (rRep y (dq D 0) (dgt y (dq D 0) - 1)) (dq D (dn D - 1)) (dgt (rRep y (dq D 0) (dgt y (dq D 0) - 1)) (dq D (dn D - 1)) - 1)))] (sQL σ b (lN r) (lN (rRep (rRep y (dq D 0) (dgt y (dq D 0) - 1)) (dq D (dn D - 1)) (dgt (rRep y (dq D 0) (dgt y (dq D 0) - 1)) (dq D (dn D - 1)) - 1)))) post
        refine V_callS (a := [vL (lN (rRep (rRep y (dq D 0) (dgt y (dq D 0) - 1)) (dq D (dn D - 1)) (dgt (rRep y (dq D 0) (dgt y (dq D 0) - 1)) (dq D (dn D - 1)) - 1))), vZ (dq D (dn D - 1))]) (rest := []) kX0_serve rfl oX1_digit iX1_digit lk_0_96 rfl rfl (Nat.le_of_ble_eq_true rfl) (Nat.le_of_ble_eq_true rfl) (Nat.le_of_ble_eq_true rfl) (post' := fun zv zσ => V 1 MX0_serve 136 [some (vR 0 b), some (vZ 3), some (vZ (dn D)), some (vZ 1), some (vZ 1), some (vZ (dq D 0)), some (vZ (dq D (dn D - 1)))] (zv.toList ++ []) zσ post) (c_digit hR1.1 (by omega) (by omega) ((show V 1 MX0_serve 136 [some (vR 0 b), some (vZ 3), some (vZ (dn D)), some (vZ 1), some (vZ 1), some (vZ (dq D 0)), some (vZ (dq D (dn D - 1)))] [vZ (dgt (rRep (rRep y (dq D 0) (dgt y (dq D 0) - 1)) (dq D (dn D - 1)) (dgt (rRep y (dq D 0) (dgt y (dq D 0) - 1)) (dq D (dn D - 1)) - 1)) (dq D (dn D - 1)))] (sQL σ b (lN r) (lN (rRep (rRep y (dq D 0) (dgt y (dq D 0) - 1)) (dq D (dn D - 1)) (dgt (rRep y (dq D 0) (dgt y (dq D 0) - 1)) (dq D (dn D - 1)) - 1)))) post from ?_))) (fun _ _ h => h)
        refine V_top (hzl) ?_
        by_cases hcb : lSe C t D (dq D (dn D - 1)) = 0
        · skip
          have hsB : sBk C t D = true := sBk_i.mpr ⟨hB, hcb⟩
          rw [hsB] at hQ
          refine V_run kX0_serve 7 [0] (show (zr (lSe C t D (dq D (dn D - 1))) ∧ (lSe C t D (dq D (dn D - 1))) = 0) ∧ V 1 MX0_serve 147 [some (vR 0 b), some (vZ 3), some (vZ (dn D)), some (vZ 1), some (vZ 1), some (vZ (dq D 0)), some (vZ (dq D (dn D - 1)))] [vZ ((dn D) - 1), vL ((sQL σ b (lN r) (lN (rRep (rRep y (dq D 0) (dgt y (dq D 0) - 1)) (dq D (dn D - 1)) (dgt (rRep y (dq D 0) (dgt y (dq D 0) - 1)) (dq D (dn D - 1)) - 1)))).2 b 3), vR 0 b] (sQL σ b (lN r) (lN (rRep (rRep y (dq D 0) (dgt y (dq D 0) - 1)) (dq D (dn D - 1)) (dgt (rRep y (dq D 0) (dgt y (dq D 0) - 1)) (dq D (dn D - 1)) - 1)))) post from ⟨(by omega), ?_⟩)
          rw [sQL_g3]
          show V 1 MX0_serve 147 [some (vR 0 b), some (vZ 3), some (vZ (dn D)), some (vZ 1), some (vZ 1), some (vZ (dq D 0)), some (vZ (dq D (dn D - 1)))] [vZ ((dn D) - 1), vL (lN r), vR 0 b] (sQL σ b (lN r) (lN (rRep (rRep y (dq D 0) (dgt y (dq D 0) - 1)) (dq D (dn D - 1)) (dgt (rRep y (dq D 0) (dgt y (dq D 0) - 1)) (dq D (dn D - 1)) - 1)))) post
          refine V_callS (a := [vL (lN r), vZ ((dn D) - 1)]) (rest := [vR 0 b]) kX0_serve rfl oX1_removed iX1_removed lk_0_74 rfl rfl (Nat.le_of_ble_eq_true rfl) (Nat.le_of_ble_eq_true rfl) (Nat.le_of_ble_eq_true rfl) (post' := fun zv zσ => V 1 MX0_serve 150 [some (vR 0 b), some (vZ 3), some (vZ (dn D)), some (vZ 1), some (vZ 1), some (vZ (dq D 0)), some (vZ (dq D (dn D - 1)))] (zv.toList ++ [vR 0 b]) zσ post) (c_removed hq.1 (by omega) (by omega) ((show V 1 MX0_serve 150 [some (vR 0 b), some (vZ 3), some (vZ (dn D)), some (vZ 1), some (vZ 1), some (vZ (dq D 0)), some (vZ (dq D (dn D - 1)))] [vL (lN (rRem r (dn D - 1))), vR 0 b] (sQL σ b (lN r) (lN (rRep (rRep y (dq D 0) (dgt y (dq D 0) - 1)) (dq D (dn D - 1)) (dgt (rRep y (dq D 0) (dgt y (dq D 0) - 1)) (dq D (dn D - 1)) - 1)))) post from ?_))) (fun _ _ h => h)
          refine V_run kX0_serve 1 [] (show V 1 MX0_serve 153 [some (vR 0 b), some (vZ 3), some (vZ (dn D)), some (vZ 1), some (vZ 1), some (vZ (dq D 0)), some (vZ (dq D (dn D - 1)))] [] (uL (sQL σ b (lN r) (lN (rRep (rRep y (dq D 0) (dgt y (dq D 0) - 1)) (dq D (dn D - 1)) (dgt (rRep y (dq D 0) (dgt y (dq D 0) - 1)) (dq D (dn D - 1)) - 1)))) b 3 (lN (rRem r (dn D - 1)))) post from ?_)
          rw [sQL_3]
          show V 1 MX0_serve 153 [some (vR 0 b), some (vZ 3), some (vZ (dn D)), some (vZ 1), some (vZ 1), some (vZ (dq D 0)), some (vZ (dq D (dn D - 1)))] [] (sQL σ b (lN (rRem r (dn D - 1))) (lN (rRep (rRep y (dq D 0) (dgt y (dq D 0) - 1)) (dq D (dn D - 1)) (dgt (rRep y (dq D 0) (dgt y (dq D 0) - 1)) (dq D (dn D - 1)) - 1)))) post
          refine V_run kX0_serve 5 [0] (show (zr 1 ∧ ¬ 1 = 0) ∧ V 1 MX0_serve 163 [some (vR 0 b), some (vZ 3), some (vZ (dn D)), some (vZ 1), some (vZ 1), some (vZ (dq D 0)), some (vZ (dq D (dn D - 1)))] [vZ (dq D 0), vL ((sQL σ b (lN (rRem r (dn D - 1))) (lN (rRep (rRep y (dq D 0) (dgt y (dq D 0) - 1)) (dq D (dn D - 1)) (dgt (rRep y (dq D 0) (dgt y (dq D 0) - 1)) (dq D (dn D - 1)) - 1)))).2 b 4)] (sQL σ b (lN (rRem r (dn D - 1))) (lN (rRep (rRep y (dq D 0) (dgt y (dq D 0) - 1)) (dq D (dn D - 1)) (dgt (rRep y (dq D 0) (dgt y (dq D 0) - 1)) (dq D (dn D - 1)) - 1)))) post from ⟨(by omega), ?_⟩)
          rw [sQL_g4]
          show V 1 MX0_serve 163 [some (vR 0 b), some (vZ 3), some (vZ (dn D)), some (vZ 1), some (vZ 1), some (vZ (dq D 0)), some (vZ (dq D (dn D - 1)))] [vZ (dq D 0), vL (lN (rRep (rRep y (dq D 0) (dgt y (dq D 0) - 1)) (dq D (dn D - 1)) (dgt (rRep y (dq D 0) (dgt y (dq D 0) - 1)) (dq D (dn D - 1)) - 1)))] (sQL σ b (lN (rRem r (dn D - 1))) (lN (rRep (rRep y (dq D 0) (dgt y (dq D 0) - 1)) (dq D (dn D - 1)) (dgt (rRep y (dq D 0) (dgt y (dq D 0) - 1)) (dq D (dn D - 1)) - 1)))) post
          refine V_callS (a := [vL (lN (rRep (rRep y (dq D 0) (dgt y (dq D 0) - 1)) (dq D (dn D - 1)) (dgt (rRep y (dq D 0) (dgt y (dq D 0) - 1)) (dq D (dn D - 1)) - 1))), vZ (dq D 0)]) (rest := []) kX0_serve rfl oX1_digit iX1_digit lk_0_96 rfl rfl (Nat.le_of_ble_eq_true rfl) (Nat.le_of_ble_eq_true rfl) (Nat.le_of_ble_eq_true rfl) (post' := fun zv zσ => V 1 MX0_serve 166 [some (vR 0 b), some (vZ 3), some (vZ (dn D)), some (vZ 1), some (vZ 1), some (vZ (dq D 0)), some (vZ (dq D (dn D - 1)))] (zv.toList ++ []) zσ post) (c_digit hR1.1 (by omega) (by omega) ((show V 1 MX0_serve 166 [some (vR 0 b), some (vZ 3), some (vZ (dn D)), some (vZ 1), some (vZ 1), some (vZ (dq D 0)), some (vZ (dq D (dn D - 1)))] [vZ (dgt (rRep (rRep y (dq D 0) (dgt y (dq D 0) - 1)) (dq D (dn D - 1)) (dgt (rRep y (dq D 0) (dgt y (dq D 0) - 1)) (dq D (dn D - 1)) - 1)) (dq D 0))] (sQL σ b (lN (rRem r (dn D - 1))) (lN (rRep (rRep y (dq D 0) (dgt y (dq D 0) - 1)) (dq D (dn D - 1)) (dgt (rRep y (dq D 0) (dgt y (dq D 0) - 1)) (dq D (dn D - 1)) - 1)))) post from ?_))) (fun _ _ h => h)
          refine V_top (hzf) ?_
          by_cases hcf : lSe C t D (dq D 0) = 0
          · skip
            have hsF : sFr C t D = true := sFr_i.mpr ⟨hF, hcf⟩
            rw [hsF] at hQ
            refine V_run kX0_serve 5 [0] (show (zr (lSe C t D (dq D 0)) ∧ (lSe C t D (dq D 0)) = 0) ∧ V 1 MX0_serve 175 [some (vR 0 b), some (vZ 3), some (vZ (dn D)), some (vZ 1), some (vZ 1), some (vZ (dq D 0)), some (vZ (dq D (dn D - 1)))] [vZ 0, vL ((sQL σ b (lN (rRem r (dn D - 1))) (lN (rRep (rRep y (dq D 0) (dgt y (dq D 0) - 1)) (dq D (dn D - 1)) (dgt (rRep y (dq D 0) (dgt y (dq D 0) - 1)) (dq D (dn D - 1)) - 1)))).2 b 3), vR 0 b] (sQL σ b (lN (rRem r (dn D - 1))) (lN (rRep (rRep y (dq D 0) (dgt y (dq D 0) - 1)) (dq D (dn D - 1)) (dgt (rRep y (dq D 0) (dgt y (dq D 0) - 1)) (dq D (dn D - 1)) - 1)))) post from ⟨(by omega), ?_⟩)
            rw [sQL_g3]
            show V 1 MX0_serve 175 [some (vR 0 b), some (vZ 3), some (vZ (dn D)), some (vZ 1), some (vZ 1), some (vZ (dq D 0)), some (vZ (dq D (dn D - 1)))] [vZ 0, vL (lN (rRem r (dn D - 1))), vR 0 b] (sQL σ b (lN (rRem r (dn D - 1))) (lN (rRep (rRep y (dq D 0) (dgt y (dq D 0) - 1)) (dq D (dn D - 1)) (dgt (rRep y (dq D 0) (dgt y (dq D 0) - 1)) (dq D (dn D - 1)) - 1)))) post
            have hrr : (rRem r (dn D - 1)) < 16 ^ 12 := Nat.lt_of_le_of_lt (rRem_le _ _) hq.1
            refine V_callS (a := [vL (lN (rRem r (dn D - 1))), vZ 0]) (rest := [vR 0 b]) kX0_serve rfl oX1_removed iX1_removed lk_0_74 rfl rfl (Nat.le_of_ble_eq_true rfl) (Nat.le_of_ble_eq_true rfl) (Nat.le_of_ble_eq_true rfl) (post' := fun zv zσ => V 1 MX0_serve 178 [some (vR 0 b), some (vZ 3), some (vZ (dn D)), some (vZ 1), some (vZ 1), some (vZ (dq D 0)), some (vZ (dq D (dn D - 1)))] (zv.toList ++ [vR 0 b]) zσ post) (c_removed hrr (by omega) (by omega) ((show V 1 MX0_serve 178 [some (vR 0 b), some (vZ 3), some (vZ (dn D)), some (vZ 1), some (vZ 1), some (vZ (dq D 0)), some (vZ (dq D (dn D - 1)))] [vL (lN (rRem (rRem r (dn D - 1)) 0)), vR 0 b] (sQL σ b (lN (rRem r (dn D - 1))) (lN (rRep (rRep y (dq D 0) (dgt y (dq D 0) - 1)) (dq D (dn D - 1)) (dgt (rRep y (dq D 0) (dgt y (dq D 0) - 1)) (dq D (dn D - 1)) - 1)))) post from ?_))) (fun _ _ h => h)
            refine V_run kX0_serve 1 [] (show V 1 MX0_serve 181 [some (vR 0 b), some (vZ 3), some (vZ (dn D)), some (vZ 1), some (vZ 1), some (vZ (dq D 0)), some (vZ (dq D (dn D - 1)))] [] (uL (sQL σ b (lN (rRem r (dn D - 1))) (lN (rRep (rRep y (dq D 0) (dgt y (dq D 0) - 1)) (dq D (dn D - 1)) (dgt (rRep y (dq D 0) (dgt y (dq D 0) - 1)) (dq D (dn D - 1)) - 1)))) b 3 (lN (rRem (rRem r (dn D - 1)) 0))) post from ?_)
            rw [sQL_3]
            show V 1 MX0_serve 181 [some (vR 0 b), some (vZ 3), some (vZ (dn D)), some (vZ 1), some (vZ 1), some (vZ (dq D 0)), some (vZ (dq D (dn D - 1)))] [] (sQL σ b (lN (rRem (rRem r (dn D - 1)) 0)) (lN (rRep (rRep y (dq D 0) (dgt y (dq D 0) - 1)) (dq D (dn D - 1)) (dgt (rRep y (dq D 0) (dgt y (dq D 0) - 1)) (dq D (dn D - 1)) - 1)))) post
            exact V_vret kX0_serve rfl rfl (hp _ _ hQ hR1)
          · skip
            have hsF : sFr C t D = false := by rw [← Bool.not_eq_true]; exact fun q => hcf (sFr_i.mp q).2
            rw [hsF] at hQ
            refine V_run kX0_serve 1 [1] (show (zr (lSe C t D (dq D 0)) ∧ ¬ (lSe C t D (dq D 0)) = 0) ∧ V 1 MX0_serve 181 [some (vR 0 b), some (vZ 3), some (vZ (dn D)), some (vZ 1), some (vZ 1), some (vZ (dq D 0)), some (vZ (dq D (dn D - 1)))] [] (sQL σ b (lN (rRem r (dn D - 1))) (lN (rRep (rRep y (dq D 0) (dgt y (dq D 0) - 1)) (dq D (dn D - 1)) (dgt (rRep y (dq D 0) (dgt y (dq D 0) - 1)) (dq D (dn D - 1)) - 1)))) post from ⟨(by omega), ?_⟩)
            exact V_vret kX0_serve rfl rfl (hp _ _ hQ hR1)
        · skip
          have hsB : sBk C t D = false := by rw [← Bool.not_eq_true]; exact fun q => hcb (sBk_i.mp q).2
          rw [hsB] at hQ
          refine V_run kX0_serve 1 [1] (show (zr (lSe C t D (dq D (dn D - 1))) ∧ ¬ (lSe C t D (dq D (dn D - 1))) = 0) ∧ V 1 MX0_serve 153 [some (vR 0 b), some (vZ 3), some (vZ (dn D)), some (vZ 1), some (vZ 1), some (vZ (dq D 0)), some (vZ (dq D (dn D - 1)))] [] (sQL σ b (lN r) (lN (rRep (rRep y (dq D 0) (dgt y (dq D 0) - 1)) (dq D (dn D - 1)) (dgt (rRep y (dq D 0) (dgt y (dq D 0) - 1)) (dq D (dn D - 1)) - 1)))) post from ⟨(by omega), ?_⟩)
          refine V_run kX0_serve 5 [0] (show (zr 1 ∧ ¬ 1 = 0) ∧ V 1 MX0_serve 163 [some (vR 0 b), some (vZ 3), some (vZ (dn D)), some (vZ 1), some (vZ 1), some (vZ (dq D 0)), some (vZ (dq D (dn D - 1)))] [vZ (dq D 0), vL ((sQL σ b (lN r) (lN (rRep (rRep y (dq D 0) (dgt y (dq D 0) - 1)) (dq D (dn D - 1)) (dgt (rRep y (dq D 0) (dgt y (dq D 0) - 1)) (dq D (dn D - 1)) - 1)))).2 b 4)] (sQL σ b (lN r) (lN (rRep (rRep y (dq D 0) (dgt y (dq D 0) - 1)) (dq D (dn D - 1)) (dgt (rRep y (dq D 0) (dgt y (dq D 0) - 1)) (dq D (dn D - 1)) - 1)))) post from ⟨(by omega), ?_⟩)
          rw [sQL_g4]
          show V 1 MX0_serve 163 [some (vR 0 b), some (vZ 3), some (vZ (dn D)), some (vZ 1), some (vZ 1), some (vZ (dq D 0)), some (vZ (dq D (dn D - 1)))] [vZ (dq D 0), vL (lN (rRep (rRep y (dq D 0) (dgt y (dq D 0) - 1)) (dq D (dn D - 1)) (dgt (rRep y (dq D 0) (dgt y (dq D 0) - 1)) (dq D (dn D - 1)) - 1)))] (sQL σ b (lN r) (lN (rRep (rRep y (dq D 0) (dgt y (dq D 0) - 1)) (dq D (dn D - 1)) (dgt (rRep y (dq D 0) (dgt y (dq D 0) - 1)) (dq D (dn D - 1)) - 1)))) post
          refine V_callS (a := [vL (lN (rRep (rRep y (dq D 0) (dgt y (dq D 0) - 1)) (dq D (dn D - 1)) (dgt (rRep y (dq D 0) (dgt y (dq D 0) - 1)) (dq D (dn D - 1)) - 1))), vZ (dq D 0)]) (rest := []) kX0_serve rfl oX1_digit iX1_digit lk_0_96 rfl rfl (Nat.le_of_ble_eq_true rfl) (Nat.le_of_ble_eq_true rfl) (Nat.le_of_ble_eq_true rfl) (post' := fun zv zσ => V 1 MX0_serve 166 [some (vR 0 b), some (vZ 3), some (vZ (dn D)), some (vZ 1), some (vZ 1), some (vZ (dq D 0)), some (vZ (dq D (dn D - 1)))] (zv.toList ++ []) zσ post) (c_digit hR1.1 (by omega) (by omega) ((show V 1 MX0_serve 166 [some (vR 0 b), some (vZ 3), some (vZ (dn D)), some (vZ 1), some (vZ 1), some (vZ (dq D 0)), some (vZ (dq D (dn D - 1)))] [vZ (dgt (rRep (rRep y (dq D 0) (dgt y (dq D 0) - 1)) (dq D (dn D - 1)) (dgt (rRep y (dq D 0) (dgt y (dq D 0) - 1)) (dq D (dn D - 1)) - 1)) (dq D 0))] (sQL σ b (lN r) (lN (rRep (rRep y (dq D 0) (dgt y (dq D 0) - 1)) (dq D (dn D - 1)) (dgt (rRep y (dq D 0) (dgt y (dq D 0) - 1)) (dq D (dn D - 1)) - 1)))) post from ?_))) (fun _ _ h => h)
          refine V_top (hzf) ?_
          by_cases hcf : lSe C t D (dq D 0) = 0
          · skip
            have hsF : sFr C t D = true := sFr_i.mpr ⟨hF, hcf⟩
            rw [hsF] at hQ
            refine V_run kX0_serve 5 [0] (show (zr (lSe C t D (dq D 0)) ∧ (lSe C t D (dq D 0)) = 0) ∧ V 1 MX0_serve 175 [some (vR 0 b), some (vZ 3), some (vZ (dn D)), some (vZ 1), some (vZ 1), some (vZ (dq D 0)), some (vZ (dq D (dn D - 1)))] [vZ 0, vL ((sQL σ b (lN r) (lN (rRep (rRep y (dq D 0) (dgt y (dq D 0) - 1)) (dq D (dn D - 1)) (dgt (rRep y (dq D 0) (dgt y (dq D 0) - 1)) (dq D (dn D - 1)) - 1)))).2 b 3), vR 0 b] (sQL σ b (lN r) (lN (rRep (rRep y (dq D 0) (dgt y (dq D 0) - 1)) (dq D (dn D - 1)) (dgt (rRep y (dq D 0) (dgt y (dq D 0) - 1)) (dq D (dn D - 1)) - 1)))) post from ⟨(by omega), ?_⟩)
            rw [sQL_g3]
            show V 1 MX0_serve 175 [some (vR 0 b), some (vZ 3), some (vZ (dn D)), some (vZ 1), some (vZ 1), some (vZ (dq D 0)), some (vZ (dq D (dn D - 1)))] [vZ 0, vL (lN (r)), vR 0 b] (sQL σ b (lN r) (lN (rRep (rRep y (dq D 0) (dgt y (dq D 0) - 1)) (dq D (dn D - 1)) (dgt (rRep y (dq D 0) (dgt y (dq D 0) - 1)) (dq D (dn D - 1)) - 1)))) post
            have hrr : (r) < 16 ^ 12 := hq.1
            refine V_callS (a := [vL (lN (r)), vZ 0]) (rest := [vR 0 b]) kX0_serve rfl oX1_removed iX1_removed lk_0_74 rfl rfl (Nat.le_of_ble_eq_true rfl) (Nat.le_of_ble_eq_true rfl) (Nat.le_of_ble_eq_true rfl) (post' := fun zv zσ => V 1 MX0_serve 178 [some (vR 0 b), some (vZ 3), some (vZ (dn D)), some (vZ 1), some (vZ 1), some (vZ (dq D 0)), some (vZ (dq D (dn D - 1)))] (zv.toList ++ [vR 0 b]) zσ post) (c_removed hrr (by omega) (by omega) ((show V 1 MX0_serve 178 [some (vR 0 b), some (vZ 3), some (vZ (dn D)), some (vZ 1), some (vZ 1), some (vZ (dq D 0)), some (vZ (dq D (dn D - 1)))] [vL (lN (rRem (r) 0)), vR 0 b] (sQL σ b (lN r) (lN (rRep (rRep y (dq D 0) (dgt y (dq D 0) - 1)) (dq D (dn D - 1)) (dgt (rRep y (dq D 0) (dgt y (dq D 0) - 1)) (dq D (dn D - 1)) - 1)))) post from ?_))) (fun _ _ h => h)
            refine V_run kX0_serve 1 [] (show V 1 MX0_serve 181 [some (vR 0 b), some (vZ 3), some (vZ (dn D)), some (vZ 1), some (vZ 1), some (vZ (dq D 0)), some (vZ (dq D (dn D - 1)))] [] (uL (sQL σ b (lN r) (lN (rRep (rRep y (dq D 0) (dgt y (dq D 0) - 1)) (dq D (dn D - 1)) (dgt (rRep y (dq D 0) (dgt y (dq D 0) - 1)) (dq D (dn D - 1)) - 1)))) b 3 (lN (rRem (r) 0))) post from ?_)
            rw [sQL_3]
            show V 1 MX0_serve 181 [some (vR 0 b), some (vZ 3), some (vZ (dn D)), some (vZ 1), some (vZ 1), some (vZ (dq D 0)), some (vZ (dq D (dn D - 1)))] [] (sQL σ b (lN (rRem (r) 0)) (lN (rRep (rRep y (dq D 0) (dgt y (dq D 0) - 1)) (dq D (dn D - 1)) (dgt (rRep y (dq D 0) (dgt y (dq D 0) - 1)) (dq D (dn D - 1)) - 1)))) post
            exact V_vret kX0_serve rfl rfl (hp _ _ hQ hR1)
          · skip
            have hsF : sFr C t D = false := by rw [← Bool.not_eq_true]; exact fun q => hcf (sFr_i.mp q).2
            rw [hsF] at hQ
            refine V_run kX0_serve 1 [1] (show (zr (lSe C t D (dq D 0)) ∧ ¬ (lSe C t D (dq D 0)) = 0) ∧ V 1 MX0_serve 181 [some (vR 0 b), some (vZ 3), some (vZ (dn D)), some (vZ 1), some (vZ 1), some (vZ (dq D 0)), some (vZ (dq D (dn D - 1)))] [] (sQL σ b (lN r) (lN (rRep (rRep y (dq D 0) (dgt y (dq D 0) - 1)) (dq D (dn D - 1)) (dgt (rRep y (dq D 0) (dgt y (dq D 0) - 1)) (dq D (dn D - 1)) - 1)))) post from ⟨(by omega), ?_⟩)
            exact V_vret kX0_serve rfl rfl (hp _ _ hQ hR1)
  rw [sQL_self hr hy] at key
  exact key
/-- a course in its cells, behind the minutes ahead of T -/
def zCo (σ : zSt) (b : Nat) (C : zCf) (T : Int) : Prop := σ.1 b 2 = cn C ∧ (∀ s : Nat, (s : Int) < T → ∃ r y : Nat, σ.2 (b + 1) s = lN r ∧ zRq r (dDay C (s + 1)) ∧ σ.2 (b + 2) s = lN y ∧ zRl y (dDay C (s + 1))) ∧ ∃ y : Nat, σ.2 b 4 = lN y ∧ zRl y (dDay C T.toNat)
theorem zRl_cong {y : Nat} {D D' : zDy} (h : dl D' = dl D) (hl : zRl y D) : zRl y D' := ⟨hl.1, fun k a b => by rw [hl.2 k a b, h]⟩
set_option maxHeartbeats 4000000 in
set_option maxRecDepth 100000 in
/-- run -/
theorem c_C_run {b a : Nat} {C : zCf} {v : Int} {σ : zSt} {post : Option VV → zSt → Prop} (hz : zPz a) (hab : a + 8 < b) (hz1 : zlen (b + 1) = 24) (hz2 : zlen (b + 2) = 24) (hpl : zPl σ a C) (hvb : ∀ e : Int, 0 ≤ e → e < cE C → zbt v e = cOn C e) (hp : ∀ σ1 : zSt, zCo σ1 b C 24 → σ1.1 = (uI σ b 2 (cn C)).1 → (∀ k : Nat, k ≠ b → k ≠ b + 1 → k ≠ b + 2 → σ1.2 k = σ.2 k) → post none σ1) : Mc 2 MX0_run [vR 0 b, vR 1 a, vZ v] σ post := by
  have hC := zPl_u3 hpl
  have hn := hC.1
  have hE := hC.2.1
  show V 2 MX0_run 0 [some (vR 0 b), some (vR 1 a), some (vZ v), none] [] σ post
  refine V_run kX0_run 2 [] (show V 2 MX0_run 2 [some (vR 0 b), some (vR 1 a), some (vZ v), none] [vR 1 a, vR 0 b] σ post from ?_)
  refine V_callV (a := []) (rest := [vR 0 b]) kX0_run rfl oX2_people iX2_people lk_0_18 rfl rfl rfl (Nat.le_of_ble_eq_true rfl) (Nat.le_of_ble_eq_true rfl) (Nat.le_of_ble_eq_true rfl) (post' := fun zv zσ => V 2 MX0_run 5 [some (vR 0 b), some (vR 1 a), some (vZ v), none] (zv.toList ++ [vR 0 b]) zσ post) (e_P_people hpl.1 ((show V 2 MX0_run 5 [some (vR 0 b), some (vR 1 a), some (vZ v), none] [vZ (cn C), vR 0 b] σ post from ?_))) (fun _ _ h => h)
  refine V_run kX0_run 6 [] (show V 2 MX0_run 15 [some (vR 0 b), some (vR 1 a), some (vZ v), none] [vR 1 a, vR 0 b] (uL (uI σ b 2 (cn C)) b 3 (0 : Int64)) post from ?_)
  obtain ⟨y0, hy0, hy1, hy2⟩ := hpl.2.2.2.1
  refine V_callV (a := []) (rest := [vR 0 b]) kX0_run rfl oX2_parcels iX2_parcels lk_0_31 rfl rfl rfl (Nat.le_of_ble_eq_true rfl) (Nat.le_of_ble_eq_true rfl) (Nat.le_of_ble_eq_true rfl) (post' := fun zv zσ => V 2 MX0_run 18 [some (vR 0 b), some (vR 1 a), some (vZ v), none] (zv.toList ++ [vR 0 b]) zσ post) (c_P_parcels ((show V 2 MX0_run 18 [some (vR 0 b), some (vR 1 a), some (vZ v), none] [vL ((uL (uI σ b 2 (cn C)) b 3 (0 : Int64)).2 a 3), vR 0 b] (uL (uI σ b 2 (cn C)) b 3 (0 : Int64)) post from ?_))) (fun _ _ h => h)
  rw [show (uL (uI σ b 2 (cn C)) b 3 (0 : Int64)).2 a 3 = lN y0 by rw [uL_ne (by omega)]; exact hy1]
  refine V_run kX0_run 3 [] (show V 2 MX0_run 23 [some (vR 0 b), some (vR 1 a), some (vZ v), some (vZ 0)] [] (uL (uL (uI σ b 2 (cn C)) b 3 (0 : Int64)) b 4 (lN y0)) post from ?_)
  have loop : ∀ (m t : Nat), t + m = 24 → ∀ (σ1 : zSt) (r y : Nat), σ1.1 = (uI σ b 2 (cn C)).1 → (∀ k : Nat, k ≠ b → k ≠ b + 1 → k ≠ b + 2 → σ1.2 k = σ.2 k) → σ1.2 b 3 = lN r → zRq r (dDay C t) → σ1.2 b 4 = lN y → zRl y (dDay C t) → (∀ s : Nat, s < t → ∃ r y : Nat, σ1.2 (b + 1) s = lN r ∧ zRq r (dDay C (s + 1)) ∧ σ1.2 (b + 2) s = lN y ∧ zRl y (dDay C (s + 1))) → V 2 MX0_run 23 [some (vR 0 b), some (vR 1 a), some (vZ v), some (vZ (t : Int))] [] σ1 post := by
    intro m
    induction m with
    | zero =>
      intro t ht σ1 r y hs1 hfr hr hq hy hl hco
      have ht24 : t = 24 := by omega
      refine V_run kX0_run 3 [1] (show (zr (t : Int) ∧ zr 24 ∧ 24 ≤ (t : Int)) ∧ V 2 MX0_run 71 [some (vR 0 b), some (vR 1 a), some (vZ v), some (vZ (t : Int))] [] σ1 post from ⟨(by omega), ?_⟩)
      subst ht24
      exact V_vret kX0_run rfl rfl (hp σ1 ⟨by rw [hs1]; exact uI_get, fun s hs => hco s (by omega), y, hy, hl⟩ hs1 hfr)
    | succ m ih =>
      intro t ht σ1 r y hs1 hfr hr hq hy hl hco
      have ht0 : (0 : Int) ≤ (t : Int) := by omega
      have ht1 : (t : Int) < 24 := by omega
      have hp1 : ∀ k : Nat, a ≤ k → k ≤ a + 8 → σ1.1 k = σ.1 k := fun k h1 h2 => by rw [hs1, uI_ne (by omega)]
      have hpl1 : zPl σ1 a C := zPl_cong hp1 (hfr a (by omega) (by omega) (by omega)) hpl
      obtain ⟨hJ, hc⟩ := zJ_day hC t
      have hdue := hpl1.2.2.2.2.2.2.2.1 t ht0 ht1
      have hcom := hpl1.2.2.2.2.2.2.1 t ht0 ht1
      have hJb := zJ_BeN (t := t) hC hJ (cE C).toNat (by omega)
      have hcb : zJc C t 0 (dBeN C t (cE C).toNat (dDay C t)) := fun k k0 k1 => (dBeN_s0 _).trans (hc k k0 k1)
      obtain ⟨hJc, -⟩ := zJ_CoN hC hJb hcb (cn C).toNat (by omega)
      refine V_run kX0_run 7 [0] (show (zr (t : Int) ∧ zr 24 ∧ (t : Int) < 24) ∧ V 2 MX0_run 33 [some (vR 0 b), some (vR 1 a), some (vZ v), some (vZ (t : Int))] [vZ (t : Int), vR 1 a, vR 1 a, vR 0 b] σ1 post from ⟨(by omega), ?_⟩)
      refine V_callV (a := [vZ (t : Int)]) (rest := [vR 1 a, vR 0 b]) kX0_run rfl oX2_dueIn iX2_dueIn lk_0_38 rfl rfl rfl (Nat.le_of_ble_eq_true rfl) (Nat.le_of_ble_eq_true rfl) (Nat.le_of_ble_eq_true rfl) (post' := fun zv zσ => V 2 MX0_run 36 [some (vR 0 b), some (vR 1 a), some (vZ v), some (vZ (t : Int))] (zv.toList ++ [vR 1 a, vR 0 b]) zσ post) (c_P_dueIn hz ht0 ht1 ((show V 2 MX0_run 36 [some (vR 0 b), some (vR 1 a), some (vZ v), some (vZ (t : Int))] [vZ (σ1.1 (a + 8) (t : Int)), vR 1 a, vR 0 b] σ1 post from ?_))) (fun _ _ h => h)
      refine V_run kX0_run 2 [] (show V 2 MX0_run 38 [some (vR 0 b), some (vR 1 a), some (vZ v), some (vZ (t : Int))] [vZ (zand (σ1.1 (a + 8) (t : Int)) v), vR 1 a, vR 0 b] σ1 post from ?_)
      refine V_callV (a := [vR 1 a, vZ (zand (σ1.1 (a + 8) (t : Int)) v)]) (rest := []) kX0_run rfl oX0_doEvents iX0_doEvents lk_0_42 rfl rfl rfl (Nat.le_of_ble_eq_true rfl) (Nat.le_of_ble_eq_true rfl) (Nat.le_of_ble_eq_true rfl) (post' := fun zv zσ => V 2 MX0_run 41 [some (vR 0 b), some (vR 1 a), some (vZ v), some (vZ (t : Int))] (zv.toList ++ []) zσ post) (c_C_doEvents (t := (t : Int)) (D := dDay C t) hz hpl1 hJ hq hr (zbt_test_rng _ _) (fun e h0 h1 => by rw [zbt_and, hdue.2 e h0 (by omega), hvb e h0 h1]; by_cases h2 : cMi C e = t <;> cases h3 : cOn C e <;> simp [h1, h2]) (fun r1 hq1 => (show V 2 MX0_run 41 [some (vR 0 b), some (vR 1 a), some (vZ v), some (vZ (t : Int))] [] (uL σ1 b 3 (lN r1)) post from ?_))) (fun _ _ h => h)
      refine V_run kX0_run 4 [] (show V 2 MX0_run 45 [some (vR 0 b), some (vR 1 a), some (vZ v), some (vZ (t : Int))] [vZ (t : Int), vR 1 a, vR 1 a, vR 0 b] (uL σ1 b 3 (lN r1)) post from ?_)
      refine V_callV (a := [vZ (t : Int)]) (rest := [vR 1 a, vR 0 b]) kX0_run rfl oX2_comersIn iX2_comersIn lk_0_46 rfl rfl rfl (Nat.le_of_ble_eq_true rfl) (Nat.le_of_ble_eq_true rfl) (Nat.le_of_ble_eq_true rfl) (post' := fun zv zσ => V 2 MX0_run 48 [some (vR 0 b), some (vR 1 a), some (vZ v), some (vZ (t : Int))] (zv.toList ++ [vR 1 a, vR 0 b]) zσ post) (c_P_comersIn hz ht0 ht1 ((show V 2 MX0_run 48 [some (vR 0 b), some (vR 1 a), some (vZ v), some (vZ (t : Int))] [vZ ((uL σ1 b 3 (lN r1)).1 (a + 7) (t : Int)), vR 1 a, vR 0 b] (uL σ1 b 3 (lN r1)) post from ?_))) (fun _ _ h => h)
      have hpl2 : zPl (uL σ1 b 3 (lN r1)) a C := zPl_cong (σ := σ1) (fun k _ _ => rfl) (by rw [uL_ne (by omega)]) hpl1
      have hpe1 : σ1.1 b 2 = cn C := by rw [hs1]; exact uI_get
      refine V_callV (a := [vR 1 a, vZ ((uL σ1 b 3 (lN r1)).1 (a + 7) (t : Int))]) (rest := []) kX0_run rfl oX0_letIn iX0_letIn lk_0_49 rfl rfl rfl (Nat.le_of_ble_eq_true rfl) (Nat.le_of_ble_eq_true rfl) (Nat.le_of_ble_eq_true rfl) (post' := fun zv zσ => V 2 MX0_run 51 [some (vR 0 b), some (vR 1 a), some (vZ v), some (vZ (t : Int))] (zv.toList ++ []) zσ post) (c_C_letIn (t := (t : Int)) hz hpl2 hpe1 hJb hcb hq1 uL_get hcom.1 (fun e h0 h1 => by have := hcom.2 e h0 (by omega); rw [show zbt ((uL σ1 b 3 (lN r1)).1 (a + 7) (t : Int)) e = zbt (σ1.1 (a + 7) (t : Int)) e from rfl, this]; simp [h1]) (fun r2 hq2 => (show V 2 MX0_run 51 [some (vR 0 b), some (vR 1 a), some (vZ v), some (vZ (t : Int))] [] (uL (uL σ1 b 3 (lN r1)) b 3 (lN r2)) post from ?_))) (fun _ _ h => h)
      rw [uL_uL]
      show V 2 MX0_run 51 [some (vR 0 b), some (vR 1 a), some (vZ v), some (vZ (t : Int))] [] (uL σ1 b 3 (lN r2)) post
      refine V_run kX0_run 3 [] (show V 2 MX0_run 54 [some (vR 0 b), some (vR 1 a), some (vZ v), some (vZ (t : Int))] [vZ (t : Int), vR 1 a, vR 0 b] (uL σ1 b 3 (lN r2)) post from ?_)
      refine V_callV (a := [vZ (t : Int)]) (rest := [vR 0 b]) kX0_run rfl oX2_openIn iX2_openIn lk_0_52 rfl rfl rfl (Nat.le_of_ble_eq_true rfl) (Nat.le_of_ble_eq_true rfl) (Nat.le_of_ble_eq_true rfl) (post' := fun zv zσ => V 2 MX0_run 57 [some (vR 0 b), some (vR 1 a), some (vZ v), some (vZ (t : Int))] (zv.toList ++ [vR 0 b]) zσ post) (e_P_openIn hz ht0 ht1 (show (uL σ1 b 3 (lN r2)).1 (a + 3) (t : Int) = cWi C t from hpl1.2.2.2.2.1 t ht0 ht1) ((show V 2 MX0_run 57 [some (vR 0 b), some (vR 1 a), some (vZ v), some (vZ (t : Int))] [vZ (cWi C (t : Int)), vR 0 b] (uL σ1 b 3 (lN r2)) post from ?_))) (fun _ _ h => h)
      refine V_callV (a := [vZ (cWi C (t : Int))]) (rest := []) kX0_run rfl oX0_serve iX0_serve lk_0_55 rfl rfl rfl (Nat.le_of_ble_eq_true rfl) (Nat.le_of_ble_eq_true rfl) (Nat.le_of_ble_eq_true rfl) (post' := fun zv zσ => V 2 MX0_run 60 [some (vR 0 b), some (vR 1 a), some (vZ v), some (vZ (t : Int))] (zv.toList ++ []) zσ post) (c_C_serve hn.2 (hC.2.2.2.1 t ht0 ht1) hJc hq2 (zRl_cong (by rw [dl_CoN, dl_BeN]) hl) uL_get (show (uL σ1 b 3 (lN r2)).2 b 4 = lN y by rw [uL_at, if_neg (by decide)]; exact hy) (fun r3 y3 hq3 hl3 => (show V 2 MX0_run 60 [some (vR 0 b), some (vR 1 a), some (vZ v), some (vZ (t : Int))] [] (sQL (uL σ1 b 3 (lN r2)) b (lN r3) (lN y3)) post from ?_))) (fun _ _ h => h)
      have hg3 : (sQL (uL σ1 b 3 (lN r2)) b (lN r3) (lN y3)).2 b 3 = lN r3 := sQL_g3
      have hg4 : (sQL (uL σ1 b 3 (lN r2)) b (lN r3) (lN y3)).2 b 4 = lN y3 := sQL_g4
      have hg1 : (sQL (uL σ1 b 3 (lN r2)) b (lN r3) (lN y3)).1 = σ1.1 := rfl
      have hg2 : ∀ k : Nat, k ≠ b → (sQL (uL σ1 b 3 (lN r2)) b (lN r3) (lN y3)).2 k = σ1.2 k := fun k hk => by unfold sQL; rw [uL_ne hk, uL_ne hk, uL_ne hk]
      generalize sQL (uL σ1 b 3 (lN r2)) b (lN r3) (lN y3) = σ3 at hg1 hg2 hg3 hg4 ⊢
      refine V_run kX0_run 2 [] (show V 2 MX0_run 62 [some (vR 0 b), some (vR 1 a), some (vZ v), some (vZ (t : Int))] [vZ (t : Int), vR 0 b] σ3 post from ?_)
      refine V_callV (a := [vZ (t : Int)]) (rest := []) kX0_run rfl oX0_keep iX0_keep lk_0_59 rfl rfl rfl (Nat.le_of_ble_eq_true rfl) (Nat.le_of_ble_eq_true rfl) (Nat.le_of_ble_eq_true rfl) (post' := fun zv zσ => V 2 MX0_run 65 [some (vR 0 b), some (vR 1 a), some (vZ v), some (vZ (t : Int))] (zv.toList ++ []) zσ post) (c_C_keep hz1 hz2 ht0 ht1 ((show V 2 MX0_run 65 [some (vR 0 b), some (vR 1 a), some (vZ v), some (vZ (t : Int))] [] (uL (uL σ3 (b + 1) (t : Int) (σ3.2 b 3)) (b + 2) (t : Int) ((uL σ3 (b + 1) (t : Int) (σ3.2 b 3)).2 b 4)) post from ?_))) (fun _ _ h => h)
      refine V_run kX0_run 2 [] (show V 2 MX0_run 23 [some (vR 0 b), some (vR 1 a), some (vZ v), some (vZ ((t : Int) + 1))] [] (uL (uL σ3 (b + 1) (t : Int) (σ3.2 b 3)) (b + 2) (t : Int) ((uL σ3 (b + 1) (t : Int) (σ3.2 b 3)).2 b 4)) post from ?_)
      rw [hg3, show (uL σ3 (b + 1) (t : Int) (lN r3)).2 b 4 = lN y3 by rw [uL_ne (by omega)]; exact hg4]
      refine ih (t + 1) (by omega) _ r3 y3 (hg1.trans hs1) (fun k h1 h2 h3 => by rw [uL_ne h3, uL_ne h2, hg2 k h1]; exact hfr k h1 h2 h3) (by rw [uL_ne (by omega), uL_ne (by omega)]; exact hg3) hq3 (by rw [uL_ne (by omega), uL_ne (by omega)]; exact hg4) hl3 (fun s hs => ?_)
      by_cases hst : s = t
      · subst hst
        exact ⟨r3, y3, by rw [uL_ne (by omega), uL_get], hq3, uL_get, hl3⟩
      · obtain ⟨r4, y4, e1, e2, e3, e4⟩ := hco s (by omega)
        exact ⟨r4, y4, by rw [uL_ne (by omega), uL_at, if_neg (by omega), hg2 _ (by omega)]; exact e1, e2, by rw [uL_at, if_neg (by omega), uL_ne (by omega), hg2 _ (by omega)]; exact e3, e4⟩
  refine loop 24 0 rfl _ 0 y0 rfl (fun k h1 h2 h3 => by rw [uL_ne h1, uL_ne h1]; rfl) (by rw [uL_at, if_neg (by decide), uL_get]; rfl) ⟨by decide, fun j h0 h => ?_⟩ uL_get ⟨hy0, fun k h0 h => ?_⟩ (fun s hs => absurd hs (Nat.not_lt_zero _))
  · show dgt 0 j = if j < 0 then _ else 0
    rw [if_neg (by omega)]
    unfold dgt
    rw [Nat.zero_div]
    rfl
  · rw [hy2 k h0 h]
    show _ = if 0 ≤ k ∧ k < cn C then cPa C k else 0
    by_cases hk : k < cn C
    · rw [if_pos hk, if_pos ⟨h0, hk⟩]
    · rw [if_neg hk, if_neg (fun q => hk q.2)]
