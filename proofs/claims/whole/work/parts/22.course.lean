def sQL (σ : zSt) (b : Nat) (x y : Int64) : zSt := uL (uL σ b 3 x) b 4 y
theorem sQL_3 {σ : zSt} {b : Nat} {x y z : Int64} : uL (sQL σ b x y) b 3 z = sQL σ b z y := by
  unfold sQL uL
  congr 1
  funext p q
  by_cases h1 : p = b ∧ q = 3
  · simp [h1]
  · by_cases h2 : p = b ∧ q = 4
    · simp [h2]
    · simp [h1, h2]
theorem sQL_4 {σ : zSt} {b : Nat} {x y z : Int64} : uL (sQL σ b x y) b 4 z = sQL σ b x z := by
  unfold sQL
  rw [uL_uL]
theorem sQL_g3 {σ : zSt} {b : Nat} {x y : Int64} : (sQL σ b x y).2 b 3 = x := by
  unfold sQL
  rw [uL_at, if_neg (by decide), uL_get]
theorem sQL_g4 {σ : zSt} {b : Nat} {x y : Int64} : (sQL σ b x y).2 b 4 = y := uL_get
theorem sQL_self {σ : zSt} {b : Nat} {x y : Int64} (h3 : σ.2 b 3 = x) (h4 : σ.2 b 4 = y) : sQL σ b x y = σ := by
  unfold sQL
  rw [uL_self h3, uL_self h4]
theorem dl_Be {C : zCf} {D : zDy} {e : Int} : dl (dBe C e D) = dl D := by
  unfold dBe
  split
  · rfl
  · split <;> rfl
theorem dl_BeN {C : zCf} {D : zDy} {t : Int} : ∀ m : Nat, dl (dBeN C t m D) = dl D
  | 0 => rfl
  | m + 1 => by
    unfold dBeN
    split
    · rw [dl_Be, dl_BeN m]
    · exact dl_BeN m
theorem dl_CoN {C : zCf} {D : zDy} {t : Int} : ∀ m : Nat, dl (dCoN C t m D) = dl D
  | 0 => rfl
  | m + 1 => by
    unfold dCoN
    split
    · exact dl_CoN m
    · exact dl_CoN m
theorem zPl_u3 {σ : zSt} {b : Nat} {C : zCf} (h : zPl σ b C) : zCv C := h.2.2.2.2.2.2.2.2
set_option maxHeartbeats 4000000 in
set_option maxRecDepth 100000 in
/-- doEvents -/
theorem c_C_doEvents {b a : Nat} {C : zCf} {D : zDy} {t v : Int} {r : Nat} {σ : zSt} {post : Option VV → zSt → Prop} (hz : zPz a) (hpl : zPl σ a C) (hJ : zJ C D) (hq : zRq r D) (hr : σ.2 b 3 = lN r) (hv : zr v) (hvb : ∀ e : Int, 0 ≤ e → e < cE C → zbt v e = decide (cMi C e = t ∧ cOn C e = true)) (hp : ∀ r' : Nat, zRq r' (dBeN C t (cE C).toNat D) → post none (uL σ b 3 (lN r'))) : Mc 1 MX0_doEvents [vR 0 b, vR 1 a, vZ v] σ post := by
  have hC := zPl_u3 hpl
  have hE := hC.2.1
  show V 1 MX0_doEvents 0 [some (vR 0 b), some (vR 1 a), some (vZ v), none, none, none] [] σ post
  refine V_run kX0_doEvents 1 [] (show V 1 MX0_doEvents 1 [some (vR 0 b), some (vR 1 a), some (vZ v), none, none, none] [vZ v] σ post from ?_)
  by_cases h0v : v = 0
  · skip
    refine V_run kX0_doEvents 1 [0] (show (zr v ∧ v = 0) ∧ V 1 MX0_doEvents 4 [some (vR 0 b), some (vR 1 a), some (vZ v), none, none, none] [] σ post from ⟨(by omega), ?_⟩)
    have h9 := hp r (by rw [dBeN_none _ (fun e he q => by have h8 := hvb e (by omega) (by omega); rw [h0v, zbt_0, decide_eq_true q] at h8; cases h8)]; exact hq)
    rw [uL_self hr] at h9
    exact V_vret kX0_doEvents rfl rfl (h9)
  · skip
    refine V_run kX0_doEvents 3 [1] (show (zr v ∧ ¬ v = 0) ∧ V 1 MX0_doEvents 7 [some (vR 0 b), some (vR 1 a), some (vZ v), some (vZ 0), none, none] [] σ post from ⟨(by omega), ?_⟩)
    have loop : ∀ (m e : Nat), e + m = (cE C).toNat → ∀ r' : Nat, zRq r' (dBeN C t e D) → V 1 MX0_doEvents 7 [some (vR 0 b), some (vR 1 a), some (vZ v), some (vZ (e : Int)), none, none] [] (uL σ b 3 (lN r')) post := by
      intro m
      induction m with
      | zero =>
        intro e he r' hr'
        refine V_run kX0_doEvents 2 [] (show V 1 MX0_doEvents 9 [some (vR 0 b), some (vR 1 a), some (vZ v), some (vZ (e : Int)), none, none] [vR 1 a, vZ (e : Int)] (uL σ b 3 (lN r')) post from ?_)
        refine V_callV (a := []) (rest := [vZ (e : Int)]) kX0_doEvents rfl oX2_events iX2_events lk_0_62 rfl rfl rfl (Nat.le_of_ble_eq_true rfl) (Nat.le_of_ble_eq_true rfl) (Nat.le_of_ble_eq_true rfl) (post' := fun zv zσ => V 1 MX0_doEvents 12 [some (vR 0 b), some (vR 1 a), some (vZ v), some (vZ (e : Int)), none, none] (zv.toList ++ [vZ (e : Int)]) zσ post) (e_P_events hpl.2.1 ((show V 1 MX0_doEvents 12 [some (vR 0 b), some (vR 1 a), some (vZ v), some (vZ (e : Int)), none, none] [vZ (cE C), vZ (e : Int)] (uL σ b 3 (lN r')) post from ?_))) (fun _ _ h => h)
        refine V_run kX0_doEvents 1 [1] (show (zr (e : Int) ∧ zr (cE C) ∧ (cE C) ≤ (e : Int)) ∧ V 1 MX0_doEvents 126 [some (vR 0 b), some (vR 1 a), some (vZ v), some (vZ (e : Int)), none, none] [] (uL σ b 3 (lN r')) post from ⟨(by omega), ?_⟩)
        have hee : e = (cE C).toNat := by omega
        subst hee
        exact V_vret kX0_doEvents rfl rfl (hp r' hr')
      | succ m ih =>
        intro e he r' hr'
        have he0 : (0 : Int) ≤ (e : Int) := by omega
        have he1 : (e : Int) < cE C := by omega
        have hEv := hC.2.2.2.2 e he0 he1
        have hpe := hpl.2.2.2.2.2.1 e he0 he1
        have hJe := zJ_BeN (t := t) hC hJ e (by omega)
        have hvbe := hvb e he0 he1
        obtain ⟨De, hDe⟩ : ∃ De, De = dBeN C t e D := ⟨_, rfl⟩
        rw [← hDe] at hJe hr'
        have hnx : dBeN C t (e + 1) D = if cMi C e = t ∧ cOn C e = true then dBe C e De else De := by rw [hDe]; rfl
        obtain ⟨f, hf⟩ : ∃ f, f = if cPe C e < cn C ∧ ds De (cPe C e) = 1 then dPos De (cPe C e) else -1 := ⟨_, rfl⟩
        refine V_run kX0_doEvents 2 [] (show V 1 MX0_doEvents 9 [some (vR 0 b), some (vR 1 a), some (vZ v), some (vZ (e : Int)), none, none] [vR 1 a, vZ (e : Int)] (uL σ b 3 (lN r')) post from ?_)
        refine V_callV (a := []) (rest := [vZ (e : Int)]) kX0_doEvents rfl oX2_events iX2_events lk_0_62 rfl rfl rfl (Nat.le_of_ble_eq_true rfl) (Nat.le_of_ble_eq_true rfl) (Nat.le_of_ble_eq_true rfl) (post' := fun zv zσ => V 1 MX0_doEvents 12 [some (vR 0 b), some (vR 1 a), some (vZ v), some (vZ (e : Int)), none, none] (zv.toList ++ [vZ (e : Int)]) zσ post) (e_P_events hpl.2.1 ((show V 1 MX0_doEvents 12 [some (vR 0 b), some (vR 1 a), some (vZ v), some (vZ (e : Int)), none, none] [vZ (cE C), vZ (e : Int)] (uL σ b 3 (lN r')) post from ?_))) (fun _ _ h => h)
        refine V_run kX0_doEvents 3 [0] (show (zr (e : Int) ∧ zr (cE C) ∧ (e : Int) < (cE C)) ∧ V 1 MX0_doEvents 17 [some (vR 0 b), some (vR 1 a), some (vZ v), some (vZ (e : Int)), none, none] [vZ (e : Int), vR 1 a] (uL σ b 3 (lN r')) post from ⟨(by omega), ?_⟩)
        refine V_callV (a := [vZ (e : Int)]) (rest := []) kX0_doEvents rfl oX2_personOf iX2_personOf lk_0_65 rfl rfl rfl (Nat.le_of_ble_eq_true rfl) (Nat.le_of_ble_eq_true rfl) (Nat.le_of_ble_eq_true rfl) (post' := fun zv zσ => V 1 MX0_doEvents 20 [some (vR 0 b), some (vR 1 a), some (vZ v), some (vZ (e : Int)), none, none] (zv.toList ++ []) zσ post) (e_P_personOf hz he0 (by omega) hpe.2.2 ((show V 1 MX0_doEvents 20 [some (vR 0 b), some (vR 1 a), some (vZ v), some (vZ (e : Int)), none, none] [vZ (cPe C (e : Int))] (uL σ b 3 (lN r')) post from ?_))) (fun _ _ h => h)
        refine V_run kX0_doEvents 6 [] (show V 1 MX0_doEvents 30 [some (vR 0 b), some (vR 1 a), some (vZ v), some (vZ (e : Int)), some (vZ ((cPe C (e : Int)) + 1)), none] [vZ ((cPe C (e : Int)) + 1), vL ((uL σ b 3 (lN r')).2 b 3)] (uL σ b 3 (lN r')) post from ?_)
        rw [uL_get]
        show V 1 MX0_doEvents 30 [some (vR 0 b), some (vR 1 a), some (vZ v), some (vZ (e : Int)), some (vZ ((cPe C (e : Int)) + 1)), none] [vZ ((cPe C (e : Int)) + 1), vL (lN r')] (uL σ b 3 (lN r')) post
        refine V_callS (a := [vL (lN r'), vZ ((cPe C (e : Int)) + 1)]) (rest := []) kX0_doEvents rfl oX1_find iX1_find lk_0_68 rfl rfl (Nat.le_of_ble_eq_true rfl) (Nat.le_of_ble_eq_true rfl) (Nat.le_of_ble_eq_true rfl) (post' := fun zv zσ => V 1 MX0_doEvents 33 [some (vR 0 b), some (vR 1 a), some (vZ v), some (vZ (e : Int)), some (vZ ((cPe C (e : Int)) + 1)), none] (zv.toList ++ []) zσ post) (c_find hr'.1 (by omega) (by omega) (zRq_find hC.1.2 hJe hr' (by omega) (by omega) hf) ((show V 1 MX0_doEvents 33 [some (vR 0 b), some (vR 1 a), some (vZ v), some (vZ (e : Int)), some (vZ ((cPe C (e : Int)) + 1)), none] [vZ f] (uL σ b 3 (lN r')) post from ?_))) (fun _ _ h => h)
        refine V_run kX0_doEvents 6 [] (show V 1 MX0_doEvents 40 [some (vR 0 b), some (vR 1 a), some (vZ v), some (vZ (e : Int)), some (vZ ((cPe C (e : Int)) + 1)), some (vZ f)] [vZ (zand (zshr v (e : Int)) 1)] (uL σ b 3 (lN r')) post from ?_)
        refine V_top (zbt_test he0 (by omega)) ?_
        by_cases hb : zbt v (e : Int) = true
        · skip
          have hcond : cMi C e = t ∧ cOn C e = true := of_decide_eq_true (hvbe.symm.trans hb)
          rw [if_pos hcond] at hnx
          rw [if_pos hb]
          show V 1 MX0_doEvents 40 [some (vR 0 b), some (vR 1 a), some (vZ v), some (vZ (e : Int)), some (vZ ((cPe C (e : Int)) + 1)), some (vZ f)] [vZ 1] (uL σ b 3 (lN r')) post
          by_cases hk : cPe C e < cn C ∧ ds De (cPe C e) = 1
          · skip
            rw [if_pos hk] at hf
            have hno : ¬ (cn C ≤ cPe C e ∨ ds De (cPe C e) ≠ 1) := fun q => by have h1 := hk.1; have h2 := hk.2; rcases q with q | q; omega; exact q h2
            obtain ⟨p0, p1, p2⟩ := dPos_in hJe (by omega) hk.1 hk.2
            rw [← hf] at p0 p1 p2
            have hrem : ∀ s l d, zRq (rRem r' f) (dn De - 1, qRem (dq De) f, s, l, d) := fun s l d => zRq_rem hr' hJe.1.2 p0 p1
            have hne : f ≠ -1 := by omega
            have hnn := hJe.1
            refine V_run kX0_doEvents 8 [0, 1] (show (zr 1 ∧ ¬ 1 = 0) ∧ (zr f ∧ zr (-1) ∧ ¬ f = (-1)) ∧ V 1 MX0_doEvents 59 [some (vR 0 b), some (vR 1 a), some (vZ v), some (vZ (e : Int)), some (vZ ((cPe C (e : Int)) + 1)), some (vZ f)] [vZ f, vL ((uL σ b 3 (lN r')).2 b 3), vR 0 b] (uL σ b 3 (lN r')) post from ⟨(by omega), (by omega), ?_⟩)
            rw [uL_get]
            show V 1 MX0_doEvents 59 [some (vR 0 b), some (vR 1 a), some (vZ v), some (vZ (e : Int)), some (vZ ((cPe C (e : Int)) + 1)), some (vZ f)] [vZ f, vL (lN r'), vR 0 b] (uL σ b 3 (lN r')) post
            refine V_callS (a := [vL (lN r'), vZ f]) (rest := [vR 0 b]) kX0_doEvents rfl oX1_removed iX1_removed lk_0_74 rfl rfl (Nat.le_of_ble_eq_true rfl) (Nat.le_of_ble_eq_true rfl) (Nat.le_of_ble_eq_true rfl) (post' := fun zv zσ => V 1 MX0_doEvents 62 [some (vR 0 b), some (vR 1 a), some (vZ v), some (vZ (e : Int)), some (vZ ((cPe C (e : Int)) + 1)), some (vZ f)] (zv.toList ++ [vR 0 b]) zσ post) (c_removed hr'.1 p0 (by omega) ((show V 1 MX0_doEvents 62 [some (vR 0 b), some (vR 1 a), some (vZ v), some (vZ (e : Int)), some (vZ ((cPe C (e : Int)) + 1)), some (vZ f)] [vL (lN (rRem r' f)), vR 0 b] (uL σ b 3 (lN r')) post from ?_))) (fun _ _ h => h)
            refine V_run kX0_doEvents 3 [] (show V 1 MX0_doEvents 67 [some (vR 0 b), some (vR 1 a), some (vZ v), some (vZ (e : Int)), some (vZ ((cPe C (e : Int)) + 1)), some (vZ f)] [vZ (e : Int), vR 1 a] (uL (uL σ b 3 (lN r')) b 3 (lN (rRem r' f))) post from ?_)
            rw [uL_uL]
            show V 1 MX0_doEvents 67 [some (vR 0 b), some (vR 1 a), some (vZ v), some (vZ (e : Int)), some (vZ ((cPe C (e : Int)) + 1)), some (vZ f)] [vZ (e : Int), vR 1 a] (uL σ b 3 (lN (rRem r' f))) post
            refine V_callV (a := [vZ (e : Int)]) (rest := []) kX0_doEvents rfl oX2_kindOf iX2_kindOf lk_0_78 rfl rfl rfl (Nat.le_of_ble_eq_true rfl) (Nat.le_of_ble_eq_true rfl) (Nat.le_of_ble_eq_true rfl) (post' := fun zv zσ => V 1 MX0_doEvents 70 [some (vR 0 b), some (vR 1 a), some (vZ v), some (vZ (e : Int)), some (vZ ((cPe C (e : Int)) + 1)), some (vZ f)] (zv.toList ++ []) zσ post) (e_P_kindOf hz he0 (by omega) hpe.1 ((show V 1 MX0_doEvents 70 [some (vR 0 b), some (vR 1 a), some (vZ v), some (vZ (e : Int)), some (vZ ((cPe C (e : Int)) + 1)), some (vZ f)] [vZ (cKi C (e : Int))] (uL σ b 3 (lN (rRem r' f))) post from ?_))) (fun _ _ h => h)
            by_cases hk1 : cKi C e = 1
            · skip
              refine V_run kX0_doEvents 7 [0] (show (zr (cKi C (e : Int)) ∧ zr 1 ∧ (cKi C (e : Int)) = 1) ∧ V 1 MX0_doEvents 82 [some (vR 0 b), some (vR 1 a), some (vZ v), some (vZ (e : Int)), some (vZ ((cPe C (e : Int)) + 1)), some (vZ f)] [vZ ((cPe C (e : Int)) + 1), vZ 0, vL ((uL σ b 3 (lN (rRem r' f))).2 b 3), vR 0 b] (uL σ b 3 (lN (rRem r' f))) post from ⟨(by omega), ?_⟩)
              rw [uL_get]
              show V 1 MX0_doEvents 82 [some (vR 0 b), some (vR 1 a), some (vZ v), some (vZ (e : Int)), some (vZ ((cPe C (e : Int)) + 1)), some (vZ f)] [vZ ((cPe C (e : Int)) + 1), vZ 0, vL (lN (rRem r' f)), vR 0 b] (uL σ b 3 (lN (rRem r' f))) post
              have hins := zRq_ins (s := ds De) (l := dl De) (d := dd De) (p := 0) (hrem (ds De) (dl De) (dd De)) (by show dn De - 1 ≤ 11; omega) (by omega) (by show 0 ≤ dn De - 1; omega) (by omega : 0 ≤ cPe C e) (by omega)
              have hr11 := zRq_11 (hrem (ds De) (dl De) (dd De)) (by show dn De - 1 ≤ 11; omega)
              refine V_callS (a := [vL (lN (rRem r' f)), vZ 0, vZ ((cPe C (e : Int)) + 1)]) (rest := [vR 0 b]) kX0_doEvents rfl oX1_inserted iX1_inserted lk_0_81 rfl rfl (Nat.le_of_ble_eq_true rfl) (Nat.le_of_ble_eq_true rfl) (Nat.le_of_ble_eq_true rfl) (post' := fun zv zσ => V 1 MX0_doEvents 85 [some (vR 0 b), some (vR 1 a), some (vZ v), some (vZ (e : Int)), some (vZ ((cPe C (e : Int)) + 1)), some (vZ f)] (zv.toList ++ [vR 0 b]) zσ post) (c_inserted hr11 (by omega) (by omega) (by omega) (by omega) ((show V 1 MX0_doEvents 85 [some (vR 0 b), some (vR 1 a), some (vZ v), some (vZ (e : Int)), some (vZ ((cPe C (e : Int)) + 1)), some (vZ f)] [vL (lN (rIns (rRem r' f) 0 (cPe C (e : Int) + 1))), vR 0 b] (uL σ b 3 (lN (rRem r' f))) post from ?_))) (fun _ _ h => h)
              refine V_run kX0_doEvents 2 [] (show V 1 MX0_doEvents 120 [some (vR 0 b), some (vR 1 a), some (vZ v), some (vZ (e : Int)), some (vZ ((cPe C (e : Int)) + 1)), some (vZ f)] [] (uL (uL σ b 3 (lN (rRem r' f))) b 3 (lN (rIns (rRem r' f) 0 (cPe C (e : Int) + 1)))) post from ?_)
              rw [uL_uL]
              show V 1 MX0_doEvents 120 [some (vR 0 b), some (vR 1 a), some (vZ v), some (vZ (e : Int)), some (vZ ((cPe C (e : Int)) + 1)), some (vZ f)] [] (uL σ b 3 (lN (rIns (rRem r' f) 0 (cPe C (e : Int) + 1)))) post
              refine V_run kX0_doEvents 2 [] (show V 1 MX0_doEvents 7 [some (vR 0 b), some (vR 1 a), some (vZ v), some (vZ ((e : Int) + 1)), some (vZ ((cPe C (e : Int)) + 1)), some (vZ f)] [] (uL σ b 3 (lN (rIns (rRem r' f) 0 (cPe C (e : Int) + 1)))) post from ?_)
              refine V_drop (L := [some (vR 0 b), some (vR 1 a), some (vZ v), some (vZ ((e : Int) + 1)), none, none]) ⟨rfl, ⟨rfl, ⟨rfl, ⟨rfl, trivial⟩⟩⟩⟩ ?_
              exact ih (e + 1) (by omega) (rIns (rRem r' f) 0 (cPe C (e : Int) + 1)) (by rw [hnx]; unfold dBe; rw [if_neg hno, if_neg (by omega), if_pos hk1, ← hf]; rw [show ∀ (q : Int → Int) (s l d : Int → Int), ((dn De - 1, q, s, l, d) : zDy).1 + 1 = dn De from fun _ _ _ _ => Int.sub_add_cancel _ _] at hins; exact hins)
            · skip
              refine V_run kX0_doEvents 4 [1] (show (zr (cKi C (e : Int)) ∧ zr 1 ∧ ¬ (cKi C (e : Int)) = 1) ∧ V 1 MX0_doEvents 93 [some (vR 0 b), some (vR 1 a), some (vZ v), some (vZ (e : Int)), some (vZ ((cPe C (e : Int)) + 1)), some (vZ f)] [vZ (e : Int), vR 1 a] (uL σ b 3 (lN (rRem r' f))) post from ⟨(by omega), ?_⟩)
              refine V_callV (a := [vZ (e : Int)]) (rest := []) kX0_doEvents rfl oX2_kindOf iX2_kindOf lk_0_78 rfl rfl rfl (Nat.le_of_ble_eq_true rfl) (Nat.le_of_ble_eq_true rfl) (Nat.le_of_ble_eq_true rfl) (post' := fun zv zσ => V 1 MX0_doEvents 96 [some (vR 0 b), some (vR 1 a), some (vZ v), some (vZ (e : Int)), some (vZ ((cPe C (e : Int)) + 1)), some (vZ f)] (zv.toList ++ []) zσ post) (e_P_kindOf hz he0 (by omega) hpe.1 ((show V 1 MX0_doEvents 96 [some (vR 0 b), some (vR 1 a), some (vZ v), some (vZ (e : Int)), some (vZ ((cPe C (e : Int)) + 1)), some (vZ f)] [vZ (cKi C (e : Int))] (uL σ b 3 (lN (rRem r' f))) post from ?_))) (fun _ _ h => h)
              by_cases hk2 : cKi C e = 2
              · skip
                refine V_run kX0_doEvents 7 [0] (show (zr (cKi C (e : Int)) ∧ zr 2 ∧ (cKi C (e : Int)) = 2) ∧ V 1 MX0_doEvents 109 [some (vR 0 b), some (vR 1 a), some (vZ v), some (vZ (e : Int)), some (vZ ((cPe C (e : Int)) + 1)), some (vZ f)] [vL ((uL σ b 3 (lN (rRem r' f))).2 b 3), vL ((uL σ b 3 (lN (rRem r' f))).2 b 3), vR 0 b] (uL σ b 3 (lN (rRem r' f))) post from ⟨(by omega), ?_⟩)
                rw [uL_get]
                show V 1 MX0_doEvents 109 [some (vR 0 b), some (vR 1 a), some (vZ v), some (vZ (e : Int)), some (vZ ((cPe C (e : Int)) + 1)), some (vZ f)] [vL (lN (rRem r' f)), vL (lN (rRem r' f)), vR 0 b] (uL σ b 3 (lN (rRem r' f))) post
                have hlen : (∀ j : Int, 0 ≤ j → j < dn De - 1 → dgt (rRem r' f) j ≠ 0) ∧ (dn De - 1 < 12 → dgt (rRem r' f) (dn De - 1) = 0) := by
                  have h7 := hrem (ds De) (dl De) (dd De)
                  refine ⟨fun j a b => ?_, fun a => ?_⟩
                  · rw [h7.2 j a (by omega), if_pos (by exact b)]
                    show qRem (dq De) f j + 1 ≠ 0
                    unfold qRem
                    split
                    · have := (hJe.2.1 j a (by omega)).1; omega
                    · have := (hJe.2.1 (j + 1) (by omega) (by omega)).1; omega
                  · rw [h7.2 _ (by omega) a, if_neg (by show ¬ dn De - 1 < dn De - 1; omega)]
                refine V_callS (a := [vL (lN (rRem r' f))]) (rest := [vL (lN (rRem r' f)), vR 0 b]) kX0_doEvents rfl oX1_length iX1_length lk_0_85 rfl rfl (Nat.le_of_ble_eq_true rfl) (Nat.le_of_ble_eq_true rfl) (Nat.le_of_ble_eq_true rfl) (post' := fun zv zσ => V 1 MX0_doEvents 112 [some (vR 0 b), some (vR 1 a), some (vZ v), some (vZ (e : Int)), some (vZ ((cPe C (e : Int)) + 1)), some (vZ f)] (zv.toList ++ [vL (lN (rRem r' f)), vR 0 b]) zσ post) (c_length (hrem (ds De) (dl De) (dd De)).1 (by omega) (by omega) hlen.1 hlen.2 ((show V 1 MX0_doEvents 112 [some (vR 0 b), some (vR 1 a), some (vZ v), some (vZ (e : Int)), some (vZ ((cPe C (e : Int)) + 1)), some (vZ f)] [vZ (dn De - 1), vL (lN (rRem r' f)), vR 0 b] (uL σ b 3 (lN (rRem r' f))) post from ?_))) (fun _ _ h => h)
                refine V_run kX0_doEvents 1 [] (show V 1 MX0_doEvents 114 [some (vR 0 b), some (vR 1 a), some (vZ v), some (vZ (e : Int)), some (vZ ((cPe C (e : Int)) + 1)), some (vZ f)] [vZ ((cPe C (e : Int)) + 1), vZ (dn De - 1), vL (lN (rRem r' f)), vR 0 b] (uL σ b 3 (lN (rRem r' f))) post from ?_)
                have hins := zRq_ins (s := ds De) (l := dl De) (d := dd De) (p := dn De - 1) (hrem (ds De) (dl De) (dd De)) (by show dn De - 1 ≤ 11; omega) (by omega) (by show dn De - 1 ≤ dn De - 1; omega) (by omega : 0 ≤ cPe C e) (by omega)
                have hr11 := zRq_11 (hrem (ds De) (dl De) (dd De)) (by show dn De - 1 ≤ 11; omega)
                refine V_callS (a := [vL (lN (rRem r' f)), vZ (dn De - 1), vZ ((cPe C (e : Int)) + 1)]) (rest := [vR 0 b]) kX0_doEvents rfl oX1_inserted iX1_inserted lk_0_81 rfl rfl (Nat.le_of_ble_eq_true rfl) (Nat.le_of_ble_eq_true rfl) (Nat.le_of_ble_eq_true rfl) (post' := fun zv zσ => V 1 MX0_doEvents 117 [some (vR 0 b), some (vR 1 a), some (vZ v), some (vZ (e : Int)), some (vZ ((cPe C (e : Int)) + 1)), some (vZ f)] (zv.toList ++ [vR 0 b]) zσ post) (c_inserted hr11 (by omega) (by omega) (by omega) (by omega) ((show V 1 MX0_doEvents 117 [some (vR 0 b), some (vR 1 a), some (vZ v), some (vZ (e : Int)), some (vZ ((cPe C (e : Int)) + 1)), some (vZ f)] [vL (lN (rIns (rRem r' f) (dn De - 1) (cPe C (e : Int) + 1))), vR 0 b] (uL σ b 3 (lN (rRem r' f))) post from ?_))) (fun _ _ h => h)
                refine V_run kX0_doEvents 1 [] (show V 1 MX0_doEvents 120 [some (vR 0 b), some (vR 1 a), some (vZ v), some (vZ (e : Int)), some (vZ ((cPe C (e : Int)) + 1)), some (vZ f)] [] (uL (uL σ b 3 (lN (rRem r' f))) b 3 (lN (rIns (rRem r' f) (dn De - 1) (cPe C (e : Int) + 1)))) post from ?_)
                rw [uL_uL]
                show V 1 MX0_doEvents 120 [some (vR 0 b), some (vR 1 a), some (vZ v), some (vZ (e : Int)), some (vZ ((cPe C (e : Int)) + 1)), some (vZ f)] [] (uL σ b 3 (lN (rIns (rRem r' f) (dn De - 1) (cPe C (e : Int) + 1)))) post
                refine V_run kX0_doEvents 2 [] (show V 1 MX0_doEvents 7 [some (vR 0 b), some (vR 1 a), some (vZ v), some (vZ ((e : Int) + 1)), some (vZ ((cPe C (e : Int)) + 1)), some (vZ f)] [] (uL σ b 3 (lN (rIns (rRem r' f) (dn De - 1) (cPe C (e : Int) + 1)))) post from ?_)
                refine V_drop (L := [some (vR 0 b), some (vR 1 a), some (vZ v), some (vZ ((e : Int) + 1)), none, none]) ⟨rfl, ⟨rfl, ⟨rfl, ⟨rfl, trivial⟩⟩⟩⟩ ?_
                exact ih (e + 1) (by omega) (rIns (rRem r' f) (dn De - 1) (cPe C (e : Int) + 1)) (by rw [hnx]; unfold dBe; rw [if_neg hno, if_neg (by omega), if_neg hk1, ← hf]; rw [show ∀ (q : Int → Int) (s l d : Int → Int), ((dn De - 1, q, s, l, d) : zDy).1 + 1 = dn De from fun _ _ _ _ => Int.sub_add_cancel _ _] at hins; exact hins)
              · skip
                refine V_run kX0_doEvents 2 [1] (show (zr (cKi C (e : Int)) ∧ zr 2 ∧ ¬ (cKi C (e : Int)) = 2) ∧ V 1 MX0_doEvents 120 [some (vR 0 b), some (vR 1 a), some (vZ v), some (vZ (e : Int)), some (vZ ((cPe C (e : Int)) + 1)), some (vZ f)] [] (uL σ b 3 (lN (rRem r' f))) post from ⟨(by omega), ?_⟩)
                refine V_run kX0_doEvents 2 [] (show V 1 MX0_doEvents 7 [some (vR 0 b), some (vR 1 a), some (vZ v), some (vZ ((e : Int) + 1)), some (vZ ((cPe C (e : Int)) + 1)), some (vZ f)] [] (uL σ b 3 (lN (rRem r' f))) post from ?_)
                refine V_drop (L := [some (vR 0 b), some (vR 1 a), some (vZ v), some (vZ ((e : Int) + 1)), none, none]) ⟨rfl, ⟨rfl, ⟨rfl, ⟨rfl, trivial⟩⟩⟩⟩ ?_
                exact ih (e + 1) (by omega) (rRem r' f) (by rw [hnx]; unfold dBe; rw [if_neg hno, if_pos (by omega), ← hf]; exact hrem _ _ _)
          · skip
            rw [if_neg hk] at hf
            refine V_run kX0_doEvents 5 [0, 0] (show (zr 1 ∧ ¬ 1 = 0) ∧ (zr f ∧ zr (-1) ∧ f = (-1)) ∧ V 1 MX0_doEvents 120 [some (vR 0 b), some (vR 1 a), some (vZ v), some (vZ (e : Int)), some (vZ ((cPe C (e : Int)) + 1)), some (vZ f)] [] (uL σ b 3 (lN r')) post from ⟨(by omega), (by omega), ?_⟩)
            refine V_run kX0_doEvents 2 [] (show V 1 MX0_doEvents 7 [some (vR 0 b), some (vR 1 a), some (vZ v), some (vZ ((e : Int) + 1)), some (vZ ((cPe C (e : Int)) + 1)), some (vZ f)] [] (uL σ b 3 (lN r')) post from ?_)
            refine V_drop (L := [some (vR 0 b), some (vR 1 a), some (vZ v), some (vZ ((e : Int) + 1)), none, none]) ⟨rfl, ⟨rfl, ⟨rfl, ⟨rfl, trivial⟩⟩⟩⟩ ?_
            exact ih (e + 1) (by omega) (r') (by rw [hnx]; unfold dBe; rw [if_pos (by rcases Int.lt_or_le (cPe C e) (cn C) with q | q; exact Or.inr (fun z => hk ⟨q, z⟩); exact Or.inl q)]; exact hr')
        · skip
          have hcond : ¬ (cMi C e = t ∧ cOn C e = true) := fun q => hb (by rw [hvbe]; exact decide_eq_true q)
          rw [if_neg hcond] at hnx
          rw [if_neg hb]
          show V 1 MX0_doEvents 40 [some (vR 0 b), some (vR 1 a), some (vZ v), some (vZ (e : Int)), some (vZ ((cPe C (e : Int)) + 1)), some (vZ f)] [vZ 0] (uL σ b 3 (lN r')) post
          refine V_run kX0_doEvents 1 [1] (show (zr 0 ∧ 0 = 0) ∧ V 1 MX0_doEvents 120 [some (vR 0 b), some (vR 1 a), some (vZ v), some (vZ (e : Int)), some (vZ ((cPe C (e : Int)) + 1)), some (vZ f)] [] (uL σ b 3 (lN r')) post from ⟨(by omega), ?_⟩)
          refine V_run kX0_doEvents 2 [] (show V 1 MX0_doEvents 7 [some (vR 0 b), some (vR 1 a), some (vZ v), some (vZ ((e : Int) + 1)), some (vZ ((cPe C (e : Int)) + 1)), some (vZ f)] [] (uL σ b 3 (lN r')) post from ?_)
          refine V_drop (L := [some (vR 0 b), some (vR 1 a), some (vZ v), some (vZ ((e : Int) + 1)), none, none]) ⟨rfl, ⟨rfl, ⟨rfl, ⟨rfl, trivial⟩⟩⟩⟩ ?_
          exact ih (e + 1) (by omega) (r') (by rw [hnx]; exact hr')
    have h1 := loop (cE C).toNat 0 (by omega) r hq
    rw [uL_self hr] at h1
    exact h1
set_option maxHeartbeats 4000000 in
set_option maxRecDepth 100000 in
/-- placeToJoin -/
theorem c_C_place {o n : Int} {σ : zSt} {post : Option VV → zSt → Prop} (ho0 : 0 ≤ o) (ho : o ≤ 2) (h0 : 0 ≤ n) (h : n ≤ 12) (hp : post (some (vZ (if o = 0 then n / 2 else if o = 1 then n / 3 else n))) σ) : Mc 0 MX0_placeToJoin [vZ o, vZ n] σ post := by
  show V 0 MX0_placeToJoin 0 [some (vZ o), some (vZ n)] [] σ post
  refine V_run kX0_placeToJoin 2 [] (show V 0 MX0_placeToJoin 2 [some (vZ o), some (vZ n)] [vZ 2, vZ o] σ post from ?_)
  by_cases h1 : o = 2
  · skip
    refine V_run kX0_placeToJoin 2 [0] (show (zr o ∧ zr 2 ∧ o = 2) ∧ V 0 MX0_placeToJoin 6 [some (vZ o), some (vZ n)] [vZ n] σ post from ⟨(by omega), ?_⟩)
    exact V_iret kX0_placeToJoin rfl rfl (z_eqI (by (repeat' split) <;> omega) hp)
  · skip
    refine V_run kX0_placeToJoin 3 [1] (show (zr o ∧ zr 2 ∧ ¬ o = 2) ∧ V 0 MX0_placeToJoin 9 [some (vZ o), some (vZ n)] [vZ 1, vZ o] σ post from ⟨(by omega), ?_⟩)
    by_cases h2 : o = 1
    · skip
      refine V_run kX0_placeToJoin 5 [0] (show (zr o ∧ zr 1 ∧ o = 1) ∧ (0 ≤ n ∧ n < 2147483648 ∧ 0 < 3 ∧ 3 < 2147483648) ∧ V 0 MX0_placeToJoin 21 [some (vZ o), some (vZ n)] [vZ (n / 3)] σ post from ⟨(by omega), (by omega), ?_⟩)
      exact V_iret kX0_placeToJoin rfl rfl (z_eqI (by (repeat' split) <;> omega) hp)
    · skip
      refine V_run kX0_placeToJoin 4 [1] (show (zr o ∧ zr 1 ∧ ¬ o = 1) ∧ (0 ≤ n ∧ n < 2147483648 ∧ 0 < 2 ∧ 2 < 2147483648) ∧ V 0 MX0_placeToJoin 21 [some (vZ o), some (vZ n)] [vZ (n / 2)] σ post from ⟨(by omega), (by omega), ?_⟩)
      exact V_iret kX0_placeToJoin rfl rfl (z_eqI (by (repeat' split) <;> omega) hp)
set_option maxHeartbeats 4000000 in
set_option maxRecDepth 100000 in
/-- letIn -/
theorem c_C_letIn {b a : Nat} {C : zCf} {D : zDy} {t v : Int} {r : Nat} {σ : zSt} {post : Option VV → zSt → Prop} (hz : zPz a) (hpl : zPl σ a C) (hpe : σ.1 b 2 = cn C) (hJ : zJ C D) (hc : zJc C t 0 D) (hq : zRq r D) (hr : σ.2 b 3 = lN r) (hv : zr v) (hvb : ∀ e : Int, 0 ≤ e → e < cn C → zbt v e = decide (cCm C e = t)) (hp : ∀ r' : Nat, zRq r' (dCoN C t (cn C).toNat D) → post none (uL σ b 3 (lN r'))) : Mc 1 MX0_letIn [vR 0 b, vR 1 a, vZ v] σ post := by
  have hC := zPl_u3 hpl
  have hn := hC.1
  show V 1 MX0_letIn 0 [some (vR 0 b), some (vR 1 a), some (vZ v), none, none] [] σ post
  refine V_run kX0_letIn 1 [] (show V 1 MX0_letIn 1 [some (vR 0 b), some (vR 1 a), some (vZ v), none, none] [vZ v] σ post from ?_)
  by_cases h0v : v = 0
  · skip
    refine V_run kX0_letIn 1 [0] (show (zr v ∧ v = 0) ∧ V 1 MX0_letIn 4 [some (vR 0 b), some (vR 1 a), some (vZ v), none, none] [] σ post from ⟨(by omega), ?_⟩)
    have h9 := hp r (by rw [dCoN_none _ (fun e he q => by have h8 := hvb e (by omega) (by omega); rw [h0v, zbt_0, decide_eq_true q] at h8; cases h8)]; exact hq)
    rw [uL_self hr] at h9
    exact V_vret kX0_letIn rfl rfl (h9)
  · skip
    refine V_run kX0_letIn 3 [1] (show (zr v ∧ ¬ v = 0) ∧ V 1 MX0_letIn 7 [some (vR 0 b), some (vR 1 a), some (vZ v), some (vZ 0), none] [] σ post from ⟨(by omega), ?_⟩)
    have loop : ∀ (m e : Nat), e + m = (cn C).toNat → ∀ r' : Nat, zRq r' (dCoN C t e D) → V 1 MX0_letIn 7 [some (vR 0 b), some (vR 1 a), some (vZ v), some (vZ (e : Int)), none] [] (uL σ b 3 (lN r')) post := by
      intro m
      induction m with
      | zero =>
        intro e he r' hr'
        refine V_run kX0_letIn 3 [] (show V 1 MX0_letIn 12 [some (vR 0 b), some (vR 1 a), some (vZ v), some (vZ (e : Int)), none] [vZ ((uL σ b 3 (lN r')).1 b 2), vZ (e : Int)] (uL σ b 3 (lN r')) post from ?_)
        rw [show (uL σ b 3 (lN r')).1 b 2 = cn C from hpe]
        show V 1 MX0_letIn 12 [some (vR 0 b), some (vR 1 a), some (vZ v), some (vZ (e : Int)), none] [vZ (cn C), vZ (e : Int)] (uL σ b 3 (lN r')) post
        refine V_run kX0_letIn 1 [1] (show (zr (e : Int) ∧ zr (cn C) ∧ (cn C) ≤ (e : Int)) ∧ V 1 MX0_letIn 63 [some (vR 0 b), some (vR 1 a), some (vZ v), some (vZ (e : Int)), none] [] (uL σ b 3 (lN r')) post from ⟨(by omega), ?_⟩)
        have hee : e = (cn C).toNat := by omega
        subst hee
        exact V_vret kX0_letIn rfl rfl (hp r' hr')
      | succ m ih =>
        intro e he r' hr'
        have he0 : (0 : Int) ≤ (e : Int) := by omega
        have he1 : (e : Int) < cn C := by omega
        have hSo := (hC.2.2.1 e he0 he1).2.1
        have hso := (hpl.2.2.1 e he0 he1).2
        obtain ⟨hJe, hce⟩ := zJ_CoN (t := t) hC hJ hc e (by omega)
        have hvbe := hvb e he0 he1
        obtain ⟨De, hDe⟩ : ∃ De, De = dCoN C t e D := ⟨_, rfl⟩
        rw [← hDe] at hJe hce hr'
        have hnx : dCoN C t (e + 1) D = if cCm C e = t then dCo C e De else De := by rw [hDe]; rfl
        refine V_run kX0_letIn 3 [] (show V 1 MX0_letIn 12 [some (vR 0 b), some (vR 1 a), some (vZ v), some (vZ (e : Int)), none] [vZ ((uL σ b 3 (lN r')).1 b 2), vZ (e : Int)] (uL σ b 3 (lN r')) post from ?_)
        rw [show (uL σ b 3 (lN r')).1 b 2 = cn C from hpe]
        show V 1 MX0_letIn 12 [some (vR 0 b), some (vR 1 a), some (vZ v), some (vZ (e : Int)), none] [vZ (cn C), vZ (e : Int)] (uL σ b 3 (lN r')) post
        refine V_run kX0_letIn 7 [0] (show (zr (e : Int) ∧ zr (cn C) ∧ (e : Int) < (cn C)) ∧ V 1 MX0_letIn 21 [some (vR 0 b), some (vR 1 a), some (vZ v), some (vZ (e : Int)), none] [vZ 1, vZ (zand (zshr v (e : Int)) 1)] (uL σ b 3 (lN r')) post from ⟨(by omega), ?_⟩)
        rw [zbt_test he0 (by omega)]
        show V 1 MX0_letIn 21 [some (vR 0 b), some (vR 1 a), some (vZ v), some (vZ (e : Int)), none] [vZ 1, vZ (if zbt v (e : Int) = true then 1 else 0)] (uL σ b 3 (lN r')) post
        by_cases hb : zbt v (e : Int) = true
        · skip
          have hcond : cCm C e = t := of_decide_eq_true (hvbe.symm.trans hb)
          rw [if_pos hcond] at hnx
          have hs0 : ds De e = 0 := (hce e he0 he1).mpr (Or.inr ⟨hcond, Int.le_refl _⟩)
          have hroom := zJ_room hC.1.2 hJe he0 he1 (by omega)
          have hnn := hJe.1
          rw [if_pos hb]
          show V 1 MX0_letIn 21 [some (vR 0 b), some (vR 1 a), some (vZ v), some (vZ (e : Int)), none] [vZ 1, vZ 1] (uL σ b 3 (lN r')) post
          refine V_run kX0_letIn 3 [0] (show (zr 1 ∧ zr 1 ∧ 1 = 1) ∧ V 1 MX0_letIn 26 [some (vR 0 b), some (vR 1 a), some (vZ v), some (vZ (e : Int)), none] [vZ (e : Int), vR 1 a] (uL σ b 3 (lN r')) post from ⟨(by omega), ?_⟩)
          refine V_callV (a := [vZ (e : Int)]) (rest := []) kX0_letIn rfl oX2_sortOf iX2_sortOf lk_0_89 rfl rfl rfl (Nat.le_of_ble_eq_true rfl) (Nat.le_of_ble_eq_true rfl) (Nat.le_of_ble_eq_true rfl) (post' := fun zv zσ => V 1 MX0_letIn 29 [some (vR 0 b), some (vR 1 a), some (vZ v), some (vZ (e : Int)), none] (zv.toList ++ []) zσ post) (e_P_sortOf hz he0 (by omega) hso ((show V 1 MX0_letIn 29 [some (vR 0 b), some (vR 1 a), some (vZ v), some (vZ (e : Int)), none] [vZ (cSo C (e : Int))] (uL σ b 3 (lN r')) post from ?_))) (fun _ _ h => h)
          refine V_run kX0_letIn 2 [] (show V 1 MX0_letIn 33 [some (vR 0 b), some (vR 1 a), some (vZ v), some (vZ (e : Int)), none] [vL ((uL σ b 3 (lN r')).2 b 3), vZ (cSo C (e : Int))] (uL σ b 3 (lN r')) post from ?_)
          rw [uL_get]
          show V 1 MX0_letIn 33 [some (vR 0 b), some (vR 1 a), some (vZ v), some (vZ (e : Int)), none] [vL (lN r'), vZ (cSo C (e : Int))] (uL σ b 3 (lN r')) post
          obtain ⟨hl1, hl2⟩ := zRq_len hJe hr'
          refine V_callS (a := [vL (lN r')]) (rest := [vZ (cSo C (e : Int))]) kX0_letIn rfl oX1_length iX1_length lk_0_85 rfl rfl (Nat.le_of_ble_eq_true rfl) (Nat.le_of_ble_eq_true rfl) (Nat.le_of_ble_eq_true rfl) (post' := fun zv zσ => V 1 MX0_letIn 36 [some (vR 0 b), some (vR 1 a), some (vZ v), some (vZ (e : Int)), none] (zv.toList ++ [vZ (cSo C (e : Int))]) zσ post) (c_length hr'.1 (by omega) (by omega) hl1 hl2 ((show V 1 MX0_letIn 36 [some (vR 0 b), some (vR 1 a), some (vZ v), some (vZ (e : Int)), none] [vZ (dn De), vZ (cSo C (e : Int))] (uL σ b 3 (lN r')) post from ?_))) (fun _ _ h => h)
          obtain ⟨p, hpv⟩ : ∃ p, p = if cSo C e = 0 then dn De / 2 else if cSo C e = 1 then dn De / 3 else dn De := ⟨_, rfl⟩
          have hp01 : 0 ≤ p ∧ p ≤ dn De := by rw [hpv]; (repeat' split) <;> omega
          refine V_callS (a := [vZ (cSo C (e : Int)), vZ (dn De)]) (rest := []) kX0_letIn rfl oX0_placeToJoin iX0_placeToJoin lk_0_92 rfl rfl (Nat.le_of_ble_eq_true rfl) (Nat.le_of_ble_eq_true rfl) (Nat.le_of_ble_eq_true rfl) (post' := fun zv zσ => V 1 MX0_letIn 39 [some (vR 0 b), some (vR 1 a), some (vZ v), some (vZ (e : Int)), none] (zv.toList ++ []) zσ post) (c_C_place (by omega) (by omega) (by omega) (by omega) ((show V 1 MX0_letIn 39 [some (vR 0 b), some (vR 1 a), some (vZ v), some (vZ (e : Int)), none] [vZ (if cSo C (e : Int) = 0 then dn De / 2 else if cSo C (e : Int) = 1 then dn De / 3 else dn De)] (uL σ b 3 (lN r')) post from ?_))) (fun _ _ h => h)
          refine V_top (hpv.symm) ?_
          refine V_run kX0_letIn 8 [] (show V 1 MX0_letIn 51 [some (vR 0 b), some (vR 1 a), some (vZ v), some (vZ (e : Int)), some (vZ p)] [vZ ((e : Int) + 1), vZ p, vL ((uL σ b 3 (lN r')).2 b 3), vR 0 b] (uL σ b 3 (lN r')) post from ?_)
          rw [uL_get]
          show V 1 MX0_letIn 51 [some (vR 0 b), some (vR 1 a), some (vZ v), some (vZ (e : Int)), some (vZ p)] [vZ ((e : Int) + 1), vZ p, vL (lN r'), vR 0 b] (uL σ b 3 (lN r')) post
          have hins := zRq_ins (s := fPut (ds De) e 1) (l := dl De) (d := dd De) (p := p) hr' hroom hp01.1 hp01.2 he0 (by omega)
          refine V_callS (a := [vL (lN r'), vZ p, vZ ((e : Int) + 1)]) (rest := [vR 0 b]) kX0_letIn rfl oX1_inserted iX1_inserted lk_0_81 rfl rfl (Nat.le_of_ble_eq_true rfl) (Nat.le_of_ble_eq_true rfl) (Nat.le_of_ble_eq_true rfl) (post' := fun zv zσ => V 1 MX0_letIn 54 [some (vR 0 b), some (vR 1 a), some (vZ v), some (vZ (e : Int)), some (vZ p)] (zv.toList ++ [vR 0 b]) zσ post) (c_inserted (zRq_11 hr' hroom) hp01.1 (by omega) (by omega) (by omega) ((show V 1 MX0_letIn 54 [some (vR 0 b), some (vR 1 a), some (vZ v), some (vZ (e : Int)), some (vZ p)] [vL (lN (rIns r' p ((e : Int) + 1))), vR 0 b] (uL σ b 3 (lN r')) post from ?_))) (fun _ _ h => h)
          refine V_run kX0_letIn 1 [] (show V 1 MX0_letIn 57 [some (vR 0 b), some (vR 1 a), some (vZ v), some (vZ (e : Int)), some (vZ p)] [] (uL (uL σ b 3 (lN r')) b 3 (lN (rIns r' p ((e : Int) + 1)))) post from ?_)
          rw [uL_uL]
          show V 1 MX0_letIn 57 [some (vR 0 b), some (vR 1 a), some (vZ v), some (vZ (e : Int)), some (vZ p)] [] (uL σ b 3 (lN (rIns r' p ((e : Int) + 1)))) post
          refine V_run kX0_letIn 2 [] (show V 1 MX0_letIn 7 [some (vR 0 b), some (vR 1 a), some (vZ v), some (vZ ((e : Int) + 1)), some (vZ p)] [] (uL σ b 3 (lN (rIns r' p ((e : Int) + 1)))) post from ?_)
          refine V_drop (L := [some (vR 0 b), some (vR 1 a), some (vZ v), some (vZ ((e : Int) + 1)), none]) ⟨rfl, ⟨rfl, ⟨rfl, ⟨rfl, trivial⟩⟩⟩⟩ ?_
          exact ih (e + 1) (by omega) (rIns r' p ((e : Int) + 1)) (by rw [hnx]; unfold dCo; rw [← hpv]; exact hins)
        · skip
          have hcond : ¬ cCm C e = t := fun q => hb (by rw [hvbe]; exact decide_eq_true q)
          rw [if_neg hcond] at hnx
          rw [if_neg hb]
          show V 1 MX0_letIn 21 [some (vR 0 b), some (vR 1 a), some (vZ v), some (vZ (e : Int)), none] [vZ 1, vZ 0] (uL σ b 3 (lN r')) post
          refine V_run kX0_letIn 1 [1] (show (zr 0 ∧ zr 1 ∧ ¬ 0 = 1) ∧ V 1 MX0_letIn 57 [some (vR 0 b), some (vR 1 a), some (vZ v), some (vZ (e : Int)), none] [] (uL σ b 3 (lN r')) post from ⟨(by omega), ?_⟩)
          refine V_run kX0_letIn 2 [] (show V 1 MX0_letIn 7 [some (vR 0 b), some (vR 1 a), some (vZ v), some (vZ ((e : Int) + 1)), none] [] (uL σ b 3 (lN r')) post from ?_)
          refine V_drop (L := [some (vR 0 b), some (vR 1 a), some (vZ v), some (vZ ((e : Int) + 1)), none]) ⟨rfl, ⟨rfl, ⟨rfl, ⟨rfl, trivial⟩⟩⟩⟩ ?_
          exact ih (e + 1) (by omega) (r') (by rw [hnx]; exact hr')
    have h1 := loop (cn C).toNat 0 (by omega) r hq
    rw [uL_self hr] at h1
    exact h1
set_option maxHeartbeats 4000000 in
set_option maxRecDepth 100000 in
/-- keep -/
theorem c_C_keep {b : Nat} {t : Int} {σ : zSt} {post : Option VV → zSt → Prop} (hz1 : zlen (b + 1) = 24) (hz2 : zlen (b + 2) = 24) (h0 : 0 ≤ t) (h : t < 24) (hp : post none (uL (uL σ (b + 1) t (σ.2 b 3)) (b + 2) t ((uL σ (b + 1) t (σ.2 b 3)).2 b 4))) : Mc 0 MX0_keep [vR 0 b, vZ t] σ post := by
  show V 0 MX0_keep 0 [some (vR 0 b), some (vZ t)] [] σ post
  refine V_run kX0_keep 24 [0, 0, 0] (show (zr t ∧ 0 ≤ t) ∧ (zr t ∧ zr (zlen (b + 1)) ∧ t < (zlen (b + 1))) ∧ (zr t ∧ zr (zlen (b + 2)) ∧ t < (zlen (b + 2))) ∧ (0 ≤ t ∧ t < (zlen (b + 1))) ∧ (0 ≤ t ∧ t < (zlen (b + 2))) ∧ V 0 MX0_keep 42 [some (vR 0 b), some (vZ t)] [] (uL (uL σ (b + 1) t (σ.2 b 3)) (b + 2) t ((uL σ (b + 1) t (σ.2 b 3)).2 b 4)) post from ⟨(by omega), (by omega), (by omega), (by omega), (by omega), ?_⟩)
  exact V_vret kX0_keep rfl rfl (hp)
