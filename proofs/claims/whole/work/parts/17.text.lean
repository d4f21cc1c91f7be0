set_option maxHeartbeats 4000000 in
/-- Text.size -/
theorem c_T_size {b : Nat} {σ : zSt} {post : Option VV → zSt → Prop}  (hp : post (some (vZ (σ.1 b 2))) σ) : Mc 0 MX5_size [vR 4 b] σ post := by
  show V 0 MX5_size 0 [some (vR 4 b)] [] σ post
  refine V_run kX5_size 2 [] (show V 0 MX5_size 4 [some (vR 4 b)] [vZ (σ.1 b 2)] σ post from ?_)
  exact V_iret kX5_size rfl rfl (hp)
set_option maxHeartbeats 4000000 in
/-- Text.byteAt -/
theorem c_T_byteAt {b : Nat} {i : Int} {σ : zSt} {post : Option VV → zSt → Prop} (hT : zTx σ b) (hi : zr i) (hp : post (some (vZ (zby (σ.1 (b + 1)) (σ.1 b 2) i))) σ) : Mc 0 MX5_byteAt [vR 4 b, vZ i] σ post := by
  show V 0 MX5_byteAt 0 [some (vR 4 b), some (vZ i)] [] σ post
  obtain ⟨hT1, hT2, hT3, hT4, hT5⟩ := id hT
  refine V_run kX5_byteAt 1 [] (show V 0 MX5_byteAt 1 [some (vR 4 b), some (vZ i)] [vZ i] σ post from ?_)
  rcases Int.lt_or_le i 0 with h1 | h1
  · skip
    refine V_run kX5_byteAt 2 [1] (show (zr i ∧ i < 0) ∧ V 0 MX5_byteAt 31 [some (vR 4 b), some (vZ i)] [vZ (-1)] σ post from ⟨(by omega), ?_⟩)
    exact V_iret kX5_byteAt rfl rfl (z_eqI (by unfold zby; (repeat' split) <;> omega) hp)
  · skip
    refine V_run kX5_byteAt 4 [0] (show (zr i ∧ 0 ≤ i) ∧ V 0 MX5_byteAt 9 [some (vR 4 b), some (vZ i)] [vZ (σ.1 b 2), vZ i] σ post from ⟨(by omega), ?_⟩)
    rcases Int.lt_or_le i (σ.1 b 2) with h2 | h2
    · skip
      refine V_run kX5_byteAt 5 [0] (show (zr i ∧ zr (σ.1 b 2) ∧ i < (σ.1 b 2)) ∧ V 0 MX5_byteAt 18 [some (vR 4 b), some (vZ i)] [vZ (zlen (b + 1)), vZ i] σ post from ⟨(by omega), ?_⟩)
      rcases Int.lt_or_le i (zlen (b + 1)) with h3 | h3
      · skip
        refine V_run kX5_byteAt 6 [0] (show (zr i ∧ zr (zlen (b + 1)) ∧ i < (zlen (b + 1))) ∧ (0 ≤ i ∧ i < (zlen (b + 1))) ∧ V 0 MX5_byteAt 31 [some (vR 4 b), some (vZ i)] [vZ (σ.1 (b + 1) i)] σ post from ⟨(by omega), (by omega), ?_⟩)
        exact V_iret kX5_byteAt rfl rfl (z_eqI (by unfold zby; (repeat' split) <;> omega) hp)
      · skip
        refine V_run kX5_byteAt 2 [1] (show (zr i ∧ zr (zlen (b + 1)) ∧ (zlen (b + 1)) ≤ i) ∧ V 0 MX5_byteAt 31 [some (vR 4 b), some (vZ i)] [vZ (-1)] σ post from ⟨(by omega), ?_⟩)
        exact V_iret kX5_byteAt rfl rfl (z_eqI (by unfold zby; (repeat' split) <;> omega) hp)
    · skip
      refine V_run kX5_byteAt 2 [1] (show (zr i ∧ zr (σ.1 b 2) ∧ (σ.1 b 2) ≤ i) ∧ V 0 MX5_byteAt 31 [some (vR 4 b), some (vZ i)] [vZ (-1)] σ post from ⟨(by omega), ?_⟩)
      exact V_iret kX5_byteAt rfl rfl (z_eqI (by unfold zby; (repeat' split) <;> omega) hp)
set_option maxHeartbeats 4000000 in
/-- X5_sortBySign -/
theorem c_T_sgn {z : Int} {σ : zSt} {post : Option VV → zSt → Prop} (hz : zr z) (hp : post (some (vZ (zsgn z))) σ) : Mc 0 MX5_sortBySign [vZ z] σ post := by
  show V 0 MX5_sortBySign 0 [some (vZ z)] [] σ post
  refine V_run kX5_sortBySign 1 [] (show V 0 MX5_sortBySign 1 [some (vZ z)] [vZ z] σ post from ?_)
  by_cases hk1 : z = 109
  · skip
    refine V_ls (off := 39) (tgt := 40) kX5_sortBySign rfl hz (by decide) (by show Op.lookupswitch.offset [(109, 39), (112, 35), (119, 37)] 41 z = 39; simp only [Op.lookupswitch.offset_cons, Op.lookupswitch.offset_nil]; (repeat' split) <;> omega) (by decide) (show V 0 MX5_sortBySign 40 [some (vZ z)] [] σ post from ?_)
    refine V_run kX5_sortBySign 1 [] (show V 0 MX5_sortBySign 41 [some (vZ z)] [vZ 2] σ post from ?_)
    exact V_iret kX5_sortBySign rfl rfl (z_eqI (by unfold zsgn; (repeat' split) <;> omega) hp)
  by_cases hk2 : z = 112
  · skip
    refine V_ls (off := 35) (tgt := 36) kX5_sortBySign rfl hz (by decide) (by show Op.lookupswitch.offset [(109, 39), (112, 35), (119, 37)] 41 z = 35; simp only [Op.lookupswitch.offset_cons, Op.lookupswitch.offset_nil]; (repeat' split) <;> omega) (by decide) (show V 0 MX5_sortBySign 36 [some (vZ z)] [] σ post from ?_)
    refine V_run kX5_sortBySign 1 [] (show V 0 MX5_sortBySign 37 [some (vZ z)] [vZ 0] σ post from ?_)
    exact V_iret kX5_sortBySign rfl rfl (z_eqI (by unfold zsgn; (repeat' split) <;> omega) hp)
  by_cases hk3 : z = 119
  · skip
    refine V_ls (off := 37) (tgt := 38) kX5_sortBySign rfl hz (by decide) (by show Op.lookupswitch.offset [(109, 39), (112, 35), (119, 37)] 41 z = 37; simp only [Op.lookupswitch.offset_cons, Op.lookupswitch.offset_nil]; (repeat' split) <;> omega) (by decide) (show V 0 MX5_sortBySign 38 [some (vZ z)] [] σ post from ?_)
    refine V_run kX5_sortBySign 1 [] (show V 0 MX5_sortBySign 39 [some (vZ z)] [vZ 1] σ post from ?_)
    exact V_iret kX5_sortBySign rfl rfl (z_eqI (by unfold zsgn; (repeat' split) <;> omega) hp)
  refine V_ls (off := 41) (tgt := 42) kX5_sortBySign rfl hz (by decide) (by show Op.lookupswitch.offset [(109, 39), (112, 35), (119, 37)] 41 z = 41; simp only [Op.lookupswitch.offset_cons, Op.lookupswitch.offset_nil]; (repeat' split) <;> omega) (by decide) (show V 0 MX5_sortBySign 42 [some (vZ z)] [] σ post from ?_)
  refine V_run kX5_sortBySign 1 [] (show V 0 MX5_sortBySign 43 [some (vZ z)] [vZ (-1)] σ post from ?_)
  exact V_iret kX5_sortBySign rfl rfl (z_eqI (by unfold zsgn; (repeat' split) <;> omega) hp)
set_option maxHeartbeats 4000000 in
/-- X5_openBySign -/
theorem c_T_opn {z : Int} {σ : zSt} {post : Option VV → zSt → Prop} (hz : zr z) (hp : post (some (vZ (zopn z))) σ) : Mc 0 MX5_openBySign [vZ z] σ post := by
  show V 0 MX5_openBySign 0 [some (vZ z)] [] σ post
  refine V_run kX5_openBySign 1 [] (show V 0 MX5_openBySign 1 [some (vZ z)] [vZ z] σ post from ?_)
  by_cases hk1 : z = 98
  · skip
    refine V_ls (off := 47) (tgt := 48) kX5_openBySign rfl hz (by decide) (by show Op.lookupswitch.offset [(98, 47), (102, 45), (110, 43), (116, 49)] 51 z = 47; simp only [Op.lookupswitch.offset_cons, Op.lookupswitch.offset_nil]; (repeat' split) <;> omega) (by decide) (show V 0 MX5_openBySign 48 [some (vZ z)] [] σ post from ?_)
    refine V_run kX5_openBySign 1 [] (show V 0 MX5_openBySign 49 [some (vZ z)] [vZ 2] σ post from ?_)
    exact V_iret kX5_openBySign rfl rfl (z_eqI (by unfold zopn; (repeat' split) <;> omega) hp)
  by_cases hk2 : z = 102
  · skip
    refine V_ls (off := 45) (tgt := 46) kX5_openBySign rfl hz (by decide) (by show Op.lookupswitch.offset [(98, 47), (102, 45), (110, 43), (116, 49)] 51 z = 45; simp only [Op.lookupswitch.offset_cons, Op.lookupswitch.offset_nil]; (repeat' split) <;> omega) (by decide) (show V 0 MX5_openBySign 46 [some (vZ z)] [] σ post from ?_)
    refine V_run kX5_openBySign 1 [] (show V 0 MX5_openBySign 47 [some (vZ z)] [vZ 1] σ post from ?_)
    exact V_iret kX5_openBySign rfl rfl (z_eqI (by unfold zopn; (repeat' split) <;> omega) hp)
  by_cases hk3 : z = 110
  · skip
    refine V_ls (off := 43) (tgt := 44) kX5_openBySign rfl hz (by decide) (by show Op.lookupswitch.offset [(98, 47), (102, 45), (110, 43), (116, 49)] 51 z = 43; simp only [Op.lookupswitch.offset_cons, Op.lookupswitch.offset_nil]; (repeat' split) <;> omega) (by decide) (show V 0 MX5_openBySign 44 [some (vZ z)] [] σ post from ?_)
    refine V_run kX5_openBySign 1 [] (show V 0 MX5_openBySign 45 [some (vZ z)] [vZ 0] σ post from ?_)
    exact V_iret kX5_openBySign rfl rfl (z_eqI (by unfold zopn; (repeat' split) <;> omega) hp)
  by_cases hk4 : z = 116
  · skip
    refine V_ls (off := 49) (tgt := 50) kX5_openBySign rfl hz (by decide) (by show Op.lookupswitch.offset [(98, 47), (102, 45), (110, 43), (116, 49)] 51 z = 49; simp only [Op.lookupswitch.offset_cons, Op.lookupswitch.offset_nil]; (repeat' split) <;> omega) (by decide) (show V 0 MX5_openBySign 50 [some (vZ z)] [] σ post from ?_)
    refine V_run kX5_openBySign 1 [] (show V 0 MX5_openBySign 51 [some (vZ z)] [vZ 3] σ post from ?_)
    exact V_iret kX5_openBySign rfl rfl (z_eqI (by unfold zopn; (repeat' split) <;> omega) hp)
  refine V_ls (off := 51) (tgt := 52) kX5_openBySign rfl hz (by decide) (by show Op.lookupswitch.offset [(98, 47), (102, 45), (110, 43), (116, 49)] 51 z = 51; simp only [Op.lookupswitch.offset_cons, Op.lookupswitch.offset_nil]; (repeat' split) <;> omega) (by decide) (show V 0 MX5_openBySign 52 [some (vZ z)] [] σ post from ?_)
  refine V_run kX5_openBySign 1 [] (show V 0 MX5_openBySign 53 [some (vZ z)] [vZ (-1)] σ post from ?_)
  exact V_iret kX5_openBySign rfl rfl (z_eqI (by unfold zopn; (repeat' split) <;> omega) hp)
set_option maxHeartbeats 4000000 in
/-- Text.fits -/
theorem c_T_fits {b : Nat} {i : Int} {σ : zSt} {post : Option VV → zSt → Prop} (hT : zTx σ b) (h0 : 0 ≤ i) (h : i < σ.1 b 2) (hp : post (some (vZ (zfit (σ.1 b 0) (σ.1 (b + 1)) i))) σ) : Mc 1 MX5_fits [vR 4 b, vZ i] σ post := by
  obtain ⟨hT1, hT2, hT3, hT4, hT5⟩ := id hT
  show V 1 MX5_fits 0 [some (vR 4 b), some (vZ i), none] [] σ post
  refine V_run kX5_fits 2 [] (show V 1 MX5_fits 2 [some (vR 4 b), some (vZ i), none] [vZ i, vR 4 b] σ post from ?_)
  refine V_callV (a := [vZ i]) (rest := []) kX5_fits rfl oX5_byteAt iX5_byteAt lk_5_41 rfl rfl rfl (Nat.le_of_ble_eq_true rfl) (Nat.le_of_ble_eq_true rfl) (Nat.le_of_ble_eq_true rfl) (post' := fun v σ' => V 1 MX5_fits 5 [some (vR 4 b), some (vZ i), none] (v.toList ++ []) σ' post) (c_T_byteAt hT ⟨by omega, by omega⟩ ((show V 1 MX5_fits 5 [some (vR 4 b), some (vZ i), none] [vZ (zby (σ.1 (b + 1)) (σ.1 b 2) i)] σ post from ?_))) (fun _ _ h => h)
  refine V_top (show zby (σ.1 (b + 1)) (σ.1 b 2) i = σ.1 (b + 1) i from if_pos ⟨h0, h⟩) ?_
  have hbi := hT5 i h0 h
  have hs := zsgn_rng (σ.1 (b + 1) i)
  have ho := zopn_rng (σ.1 (b + 1) i)
  refine V_run kX5_fits 3 [] (show V 1 MX5_fits 10 [some (vR 4 b), some (vZ i), some (vZ (σ.1 (b + 1) i))] [vZ (σ.1 b 0)] σ post from ?_)
  by_cases h1 : (σ.1 b 0) = 0
  · skip
    refine V_run kX5_fits 2 [0] (show (zr (σ.1 b 0) ∧ (σ.1 b 0) = 0) ∧ V 1 MX5_fits 14 [some (vR 4 b), some (vZ i), some (vZ (σ.1 (b + 1) i))] [vZ (σ.1 (b + 1) i)] σ post from ⟨(by omega), ?_⟩)
    refine V_callS (a := [vZ (σ.1 (b + 1) i)]) (rest := []) kX5_fits rfl oX5_openBySign iX5_openBySign lk_5_45 rfl rfl (Nat.le_of_ble_eq_true rfl) (Nat.le_of_ble_eq_true rfl) (Nat.le_of_ble_eq_true rfl) (post' := fun v σ' => V 1 MX5_fits 17 [some (vR 4 b), some (vZ i), some (vZ (σ.1 (b + 1) i))] (v.toList ++ []) σ' post) (c_T_opn ⟨by omega, by omega⟩ ((show V 1 MX5_fits 17 [some (vR 4 b), some (vZ i), some (vZ (σ.1 (b + 1) i))] [vZ (zopn (σ.1 (b + 1) i))] σ post from ?_))) (fun _ _ h => h)
    refine V_run kX5_fits 1 [] (show V 1 MX5_fits 18 [some (vR 4 b), some (vZ i), some (vZ (σ.1 (b + 1) i))] [vZ (-1), vZ (zopn (σ.1 (b + 1) i))] σ post from ?_)
    by_cases h2 : (zopn (σ.1 (b + 1) i)) = (-1)
    · skip
      refine V_run kX5_fits 2 [1] (show (zr (zopn (σ.1 (b + 1) i)) ∧ zr (-1) ∧ (zopn (σ.1 (b + 1) i)) = (-1)) ∧ V 1 MX5_fits 26 [some (vR 4 b), some (vZ i), some (vZ (σ.1 (b + 1) i))] [vZ 0] σ post from ⟨(by omega), ?_⟩)
      exact V_zret kX5_fits rfl rfl (Or.inl rfl) (z_eqI (by unfold zfit; (repeat' split) <;> omega) hp)
    · skip
      refine V_run kX5_fits 3 [0] (show (zr (zopn (σ.1 (b + 1) i)) ∧ zr (-1) ∧ ¬ (zopn (σ.1 (b + 1) i)) = (-1)) ∧ V 1 MX5_fits 26 [some (vR 4 b), some (vZ i), some (vZ (σ.1 (b + 1) i))] [vZ 1] σ post from ⟨(by omega), ?_⟩)
      exact V_zret kX5_fits rfl rfl (Or.inr rfl) (z_eqI (by unfold zfit; (repeat' split) <;> omega) hp)
  · skip
    refine V_run kX5_fits 4 [1] (show (zr (σ.1 b 0) ∧ ¬ (σ.1 b 0) = 0) ∧ (0 ≤ i ∧ i < 2147483648 ∧ 0 < 4 ∧ 4 < 2147483648) ∧ V 1 MX5_fits 30 [some (vR 4 b), some (vZ i), some (vZ (σ.1 (b + 1) i))] [vZ (i % 4)] σ post from ⟨(by omega), (by omega), ?_⟩)
    by_cases hk3 : (i % 4) = 0
    · skip
      refine V_tsIn (off := 26) (tgt := 56) kX5_fits rfl ⟨by omega, by omega⟩ (by omega) (by omega) (by rw [hk3]; rfl) (by decide) (show V 1 MX5_fits 56 [some (vR 4 b), some (vZ i), some (vZ (σ.1 (b + 1) i))] [] σ post from ?_)
      refine V_run kX5_fits 2 [] (show V 1 MX5_fits 59 [some (vR 4 b), some (vZ i), some (vZ (σ.1 (b + 1) i))] [vZ 97, vZ (σ.1 (b + 1) i)] σ post from ?_)
      rcases Int.lt_or_le (σ.1 (b + 1) i) 97 with h4 | h4
      · skip
        refine V_run kX5_fits 2 [1] (show (zr (σ.1 (b + 1) i) ∧ zr 97 ∧ (σ.1 (b + 1) i) < 97) ∧ V 1 MX5_fits 73 [some (vR 4 b), some (vZ i), some (vZ (σ.1 (b + 1) i))] [vZ 0] σ post from ⟨(by omega), ?_⟩)
        exact V_zret kX5_fits rfl rfl (Or.inl rfl) (z_eqI (by unfold zfit; (repeat' split) <;> omega) hp)
      · skip
        refine V_run kX5_fits 3 [0] (show (zr (σ.1 (b + 1) i) ∧ zr 97 ∧ 97 ≤ (σ.1 (b + 1) i)) ∧ V 1 MX5_fits 65 [some (vR 4 b), some (vZ i), some (vZ (σ.1 (b + 1) i))] [vZ 120, vZ (σ.1 (b + 1) i)] σ post from ⟨(by omega), ?_⟩)
        rcases Int.lt_or_le 120 (σ.1 (b + 1) i) with h5 | h5
        · skip
          refine V_run kX5_fits 2 [1] (show (zr (σ.1 (b + 1) i) ∧ zr 120 ∧ 120 < (σ.1 (b + 1) i)) ∧ V 1 MX5_fits 73 [some (vR 4 b), some (vZ i), some (vZ (σ.1 (b + 1) i))] [vZ 0] σ post from ⟨(by omega), ?_⟩)
          exact V_zret kX5_fits rfl rfl (Or.inl rfl) (z_eqI (by unfold zfit; (repeat' split) <;> omega) hp)
        · skip
          refine V_run kX5_fits 3 [0] (show (zr (σ.1 (b + 1) i) ∧ zr 120 ∧ (σ.1 (b + 1) i) ≤ 120) ∧ V 1 MX5_fits 73 [some (vR 4 b), some (vZ i), some (vZ (σ.1 (b + 1) i))] [vZ 1] σ post from ⟨(by omega), ?_⟩)
          exact V_zret kX5_fits rfl rfl (Or.inr rfl) (z_eqI (by unfold zfit; (repeat' split) <;> omega) hp)
    by_cases hk6 : (i % 4) = 1
    · skip
      refine V_tsIn (off := 44) (tgt := 74) kX5_fits rfl ⟨by omega, by omega⟩ (by omega) (by omega) (by rw [hk6]; rfl) (by decide) (show V 1 MX5_fits 74 [some (vR 4 b), some (vZ i), some (vZ (σ.1 (b + 1) i))] [] σ post from ?_)
      refine V_run kX5_fits 1 [] (show V 1 MX5_fits 75 [some (vR 4 b), some (vZ i), some (vZ (σ.1 (b + 1) i))] [vZ (σ.1 (b + 1) i)] σ post from ?_)
      refine V_callS (a := [vZ (σ.1 (b + 1) i)]) (rest := []) kX5_fits rfl oX5_sortBySign iX5_sortBySign lk_5_48 rfl rfl (Nat.le_of_ble_eq_true rfl) (Nat.le_of_ble_eq_true rfl) (Nat.le_of_ble_eq_true rfl) (post' := fun v σ' => V 1 MX5_fits 78 [some (vR 4 b), some (vZ i), some (vZ (σ.1 (b + 1) i))] (v.toList ++ []) σ' post) (c_T_sgn ⟨by omega, by omega⟩ ((show V 1 MX5_fits 78 [some (vR 4 b), some (vZ i), some (vZ (σ.1 (b + 1) i))] [vZ (zsgn (σ.1 (b + 1) i))] σ post from ?_))) (fun _ _ h => h)
      refine V_run kX5_fits 1 [] (show V 1 MX5_fits 79 [some (vR 4 b), some (vZ i), some (vZ (σ.1 (b + 1) i))] [vZ (-1), vZ (zsgn (σ.1 (b + 1) i))] σ post from ?_)
      by_cases h7 : (zsgn (σ.1 (b + 1) i)) = (-1)
      · skip
        refine V_run kX5_fits 2 [1] (show (zr (zsgn (σ.1 (b + 1) i)) ∧ zr (-1) ∧ (zsgn (σ.1 (b + 1) i)) = (-1)) ∧ V 1 MX5_fits 87 [some (vR 4 b), some (vZ i), some (vZ (σ.1 (b + 1) i))] [vZ 0] σ post from ⟨(by omega), ?_⟩)
        exact V_zret kX5_fits rfl rfl (Or.inl rfl) (z_eqI (by unfold zfit; (repeat' split) <;> omega) hp)
      · skip
        refine V_run kX5_fits 3 [0] (show (zr (zsgn (σ.1 (b + 1) i)) ∧ zr (-1) ∧ ¬ (zsgn (σ.1 (b + 1) i)) = (-1)) ∧ V 1 MX5_fits 87 [some (vR 4 b), some (vZ i), some (vZ (σ.1 (b + 1) i))] [vZ 1] σ post from ⟨(by omega), ?_⟩)
        exact V_zret kX5_fits rfl rfl (Or.inr rfl) (z_eqI (by unfold zfit; (repeat' split) <;> omega) hp)
    by_cases hk8 : (i % 4) = 2
    · skip
      refine V_tsIn (off := 58) (tgt := 88) kX5_fits rfl ⟨by omega, by omega⟩ (by omega) (by omega) (by rw [hk8]; rfl) (by decide) (show V 1 MX5_fits 88 [some (vR 4 b), some (vZ i), some (vZ (σ.1 (b + 1) i))] [] σ post from ?_)
      refine V_run kX5_fits 2 [] (show V 1 MX5_fits 91 [some (vR 4 b), some (vZ i), some (vZ (σ.1 (b + 1) i))] [vZ 49, vZ (σ.1 (b + 1) i)] σ post from ?_)
      rcases Int.lt_or_le (σ.1 (b + 1) i) 49 with h9 | h9
      · skip
        refine V_run kX5_fits 2 [1] (show (zr (σ.1 (b + 1) i) ∧ zr 49 ∧ (σ.1 (b + 1) i) < 49) ∧ V 1 MX5_fits 105 [some (vR 4 b), some (vZ i), some (vZ (σ.1 (b + 1) i))] [vZ 0] σ post from ⟨(by omega), ?_⟩)
        exact V_zret kX5_fits rfl rfl (Or.inl rfl) (z_eqI (by unfold zfit; (repeat' split) <;> omega) hp)
      · skip
        refine V_run kX5_fits 3 [0] (show (zr (σ.1 (b + 1) i) ∧ zr 49 ∧ 49 ≤ (σ.1 (b + 1) i)) ∧ V 1 MX5_fits 97 [some (vR 4 b), some (vZ i), some (vZ (σ.1 (b + 1) i))] [vZ 57, vZ (σ.1 (b + 1) i)] σ post from ⟨(by omega), ?_⟩)
        rcases Int.lt_or_le 57 (σ.1 (b + 1) i) with h10 | h10
        · skip
          refine V_run kX5_fits 2 [1] (show (zr (σ.1 (b + 1) i) ∧ zr 57 ∧ 57 < (σ.1 (b + 1) i)) ∧ V 1 MX5_fits 105 [some (vR 4 b), some (vZ i), some (vZ (σ.1 (b + 1) i))] [vZ 0] σ post from ⟨(by omega), ?_⟩)
          exact V_zret kX5_fits rfl rfl (Or.inl rfl) (z_eqI (by unfold zfit; (repeat' split) <;> omega) hp)
        · skip
          refine V_run kX5_fits 3 [0] (show (zr (σ.1 (b + 1) i) ∧ zr 57 ∧ (σ.1 (b + 1) i) ≤ 57) ∧ V 1 MX5_fits 105 [some (vR 4 b), some (vZ i), some (vZ (σ.1 (b + 1) i))] [vZ 1] σ post from ⟨(by omega), ?_⟩)
          exact V_zret kX5_fits rfl rfl (Or.inr rfl) (z_eqI (by unfold zfit; (repeat' split) <;> omega) hp)
    refine V_tsOut (tgt := 106) kX5_fits rfl ⟨by omega, by omega⟩ (by omega) (by decide) (show V 1 MX5_fits 106 [some (vR 4 b), some (vZ i), some (vZ (σ.1 (b + 1) i))] [] σ post from ?_)
    refine V_run kX5_fits 2 [] (show V 1 MX5_fits 109 [some (vR 4 b), some (vZ i), some (vZ (σ.1 (b + 1) i))] [vZ 59, vZ (σ.1 (b + 1) i)] σ post from ?_)
    by_cases h11 : (σ.1 (b + 1) i) = 59
    · skip
      refine V_run kX5_fits 3 [0] (show (zr (σ.1 (b + 1) i) ∧ zr 59 ∧ (σ.1 (b + 1) i) = 59) ∧ V 1 MX5_fits 117 [some (vR 4 b), some (vZ i), some (vZ (σ.1 (b + 1) i))] [vZ 1] σ post from ⟨(by omega), ?_⟩)
      exact V_zret kX5_fits rfl rfl (Or.inr rfl) (z_eqI (by unfold zfit; (repeat' split) <;> omega) hp)
    · skip
      refine V_run kX5_fits 2 [1] (show (zr (σ.1 (b + 1) i) ∧ zr 59 ∧ ¬ (σ.1 (b + 1) i) = 59) ∧ V 1 MX5_fits 117 [some (vR 4 b), some (vZ i), some (vZ (σ.1 (b + 1) i))] [vZ 0] σ post from ⟨(by omega), ?_⟩)
      exact V_zret kX5_fits rfl rfl (Or.inl rfl) (z_eqI (by unfold zfit; (repeat' split) <;> omega) hp)
set_option maxHeartbeats 4000000 in
/-- Text.isEnded -/
theorem c_T_isEnded {b : Nat} {σ : zSt} {post : Option VV → zSt → Prop} (hT : zTx σ b) (hp : post (some (vZ (zend (σ.1 b 0) (σ.1 b 2)))) σ) : Mc 0 MX5_isEnded [vR 4 b] σ post := by
  obtain ⟨hT1, hT2, hT3, hT4, hT5⟩ := id hT
  show V 0 MX5_isEnded 0 [some (vR 4 b)] [] σ post
  refine V_run kX5_isEnded 2 [] (show V 0 MX5_isEnded 4 [some (vR 4 b)] [vZ (σ.1 b 0)] σ post from ?_)
  by_cases h1 : (σ.1 b 0) = 0
  · skip
    refine V_run kX5_isEnded 3 [1] (show (zr (σ.1 b 0) ∧ (σ.1 b 0) = 0) ∧ V 0 MX5_isEnded 29 [some (vR 4 b)] [vZ 1] σ post from ⟨(by omega), ?_⟩)
    exact V_zret kX5_isEnded rfl rfl (Or.inr rfl) (z_eqI (by unfold zend; (repeat' split) <;> omega) hp)
  · skip
    refine V_run kX5_isEnded 3 [0] (show (zr (σ.1 b 0) ∧ ¬ (σ.1 b 0) = 0) ∧ V 0 MX5_isEnded 11 [some (vR 4 b)] [vZ (σ.1 b 2)] σ post from ⟨(by omega), ?_⟩)
    by_cases h2 : (σ.1 b 2) = 0
    · skip
      refine V_run kX5_isEnded 3 [1] (show (zr (σ.1 b 2) ∧ (σ.1 b 2) = 0) ∧ V 0 MX5_isEnded 29 [some (vR 4 b)] [vZ 1] σ post from ⟨(by omega), ?_⟩)
      exact V_zret kX5_isEnded rfl rfl (Or.inr rfl) (z_eqI (by unfold zend; (repeat' split) <;> omega) hp)
    · skip
      refine V_run kX5_isEnded 6 [0] (show (zr (σ.1 b 2) ∧ ¬ (σ.1 b 2) = 0) ∧ (0 ≤ (σ.1 b 2) ∧ (σ.1 b 2) < 2147483648 ∧ 0 < 4 ∧ 4 < 2147483648) ∧ V 0 MX5_isEnded 21 [some (vR 4 b)] [vZ 3, vZ ((σ.1 b 2) % 4)] σ post from ⟨(by omega), (by omega), ?_⟩)
      by_cases h3 : ((σ.1 b 2) % 4) = 3
      · skip
        refine V_run kX5_isEnded 3 [0] (show (zr ((σ.1 b 2) % 4) ∧ zr 3 ∧ ((σ.1 b 2) % 4) = 3) ∧ V 0 MX5_isEnded 29 [some (vR 4 b)] [vZ 1] σ post from ⟨(by omega), ?_⟩)
        exact V_zret kX5_isEnded rfl rfl (Or.inr rfl) (z_eqI (by unfold zend; (repeat' split) <;> omega) hp)
      · skip
        refine V_run kX5_isEnded 2 [1] (show (zr ((σ.1 b 2) % 4) ∧ zr 3 ∧ ¬ ((σ.1 b 2) % 4) = 3) ∧ V 0 MX5_isEnded 29 [some (vR 4 b)] [vZ 0] σ post from ⟨(by omega), ?_⟩)
        exact V_zret kX5_isEnded rfl rfl (Or.inl rfl) (z_eqI (by unfold zend; (repeat' split) <;> omega) hp)
set_option maxHeartbeats 4000000 in
/-- Text.firstFault -/
theorem c_T_ff {b : Nat} {σ : zSt} {post : Option VV → zSt → Prop} (hT : zTx σ b) (hp : post (some (vZ (zflt (σ.1 b 0) (σ.1 (b + 1)) (σ.1 b 2)))) σ) : Mc 2 MX5_firstFault [vR 4 b] σ post := by
  obtain ⟨hT1, hT2, hT3, hT4, hT5⟩ := id hT
  show V 2 MX5_firstFault 0 [some (vR 4 b), none] [] σ post
  refine V_run kX5_firstFault 2 [] (show V 2 MX5_firstFault 2 [some (vR 4 b), some (vZ 0)] [] σ post from ?_)
  have loop : ∀ (m : Nat) (i : Int), 0 ≤ i → i + m = σ.1 b 2 → post (some (vZ (zfl2 (σ.1 b 0) (σ.1 b 2) (zffo (σ.1 b 0) (σ.1 (b + 1)) m i)))) σ → V 2 MX5_firstFault 2 [some (vR 4 b), some (vZ i)] [] σ post := by
    intro m
    induction m with
    | zero =>
      intro i hi0 hi hp
      refine V_run kX5_firstFault 5 [1] (show (zr i ∧ zr (σ.1 b 2) ∧ (σ.1 b 2) ≤ i) ∧ V 2 MX5_firstFault 27 [some (vR 4 b), some (vZ i)] [vR 4 b] σ post from ⟨(by omega), ?_⟩)
      have hze : zend (σ.1 b 0) (σ.1 b 2) = 0 ∨ zend (σ.1 b 0) (σ.1 b 2) = 1 := by unfold zend; split <;> omega
      refine V_callV (a := []) (rest := []) kX5_firstFault rfl oX5_isEnded iX5_isEnded lk_5_33 rfl rfl rfl (Nat.le_of_ble_eq_true rfl) (Nat.le_of_ble_eq_true rfl) (Nat.le_of_ble_eq_true rfl) (post' := fun v σ' => V 2 MX5_firstFault 30 [some (vR 4 b), some (vZ i)] (v.toList ++ []) σ' post) (c_T_isEnded hT ((show V 2 MX5_firstFault 30 [some (vR 4 b), some (vZ i)] [vZ (zend (σ.1 b 0) (σ.1 b 2))] σ post from ?_))) (fun _ _ h => h)
      by_cases h1 : (zend (σ.1 b 0) (σ.1 b 2)) = 0
      · skip
        refine V_run kX5_firstFault 3 [1] (show (zr (zend (σ.1 b 0) (σ.1 b 2)) ∧ (zend (σ.1 b 0) (σ.1 b 2)) = 0) ∧ V 2 MX5_firstFault 41 [some (vR 4 b), some (vZ i)] [vZ (σ.1 b 2)] σ post from ⟨(by omega), ?_⟩)
        exact V_iret kX5_firstFault rfl rfl (z_eqI (by show _ = zfl2 _ _ (-1); unfold zfl2; rw [if_pos rfl]; (repeat' split) <;> omega) hp)
      · skip
        refine V_run kX5_firstFault 3 [0] (show (zr (zend (σ.1 b 0) (σ.1 b 2)) ∧ ¬ (zend (σ.1 b 0) (σ.1 b 2)) = 0) ∧ V 2 MX5_firstFault 41 [some (vR 4 b), some (vZ i)] [vZ (-1)] σ post from ⟨(by omega), ?_⟩)
        exact V_iret kX5_firstFault rfl rfl (z_eqI (by show _ = zfl2 _ _ (-1); unfold zfl2; rw [if_pos rfl]; (repeat' split) <;> omega) hp)
    | succ m ih =>
      intro i hi0 hi hp
      have hfr := zfit_rng (σ.1 b 0) (σ.1 (b + 1)) i
      refine V_run kX5_firstFault 6 [0] (show (zr i ∧ zr (σ.1 b 2) ∧ i < (σ.1 b 2)) ∧ V 2 MX5_firstFault 12 [some (vR 4 b), some (vZ i)] [vZ i, vR 4 b] σ post from ⟨(by omega), ?_⟩)
      refine V_callV (a := [vZ i]) (rest := []) kX5_firstFault rfl oX5_fits iX5_fits lk_5_29 rfl rfl rfl (Nat.le_of_ble_eq_true rfl) (Nat.le_of_ble_eq_true rfl) (Nat.le_of_ble_eq_true rfl) (post' := fun v σ' => V 2 MX5_firstFault 15 [some (vR 4 b), some (vZ i)] (v.toList ++ []) σ' post) (c_T_fits hT hi0 (by omega) ((show V 2 MX5_firstFault 15 [some (vR 4 b), some (vZ i)] [vZ (zfit (σ.1 b 0) (σ.1 (b + 1)) i)] σ post from ?_))) (fun _ _ h => h)
      by_cases hz : zfit (σ.1 b 0) (σ.1 (b + 1)) i = 0
      · skip
        rw [show zffo (σ.1 b 0) (σ.1 (b + 1)) (m + 1) i = i from if_pos hz, show zfl2 (σ.1 b 0) (σ.1 b 2) i = i from if_neg (by omega)] at hp
        refine V_run kX5_firstFault 2 [0] (show (zr (zfit (σ.1 b 0) (σ.1 (b + 1)) i) ∧ (zfit (σ.1 b 0) (σ.1 (b + 1)) i) = 0) ∧ V 2 MX5_firstFault 19 [some (vR 4 b), some (vZ i)] [vZ i] σ post from ⟨(by omega), ?_⟩)
        exact V_iret kX5_firstFault rfl rfl (hp)
      · skip
        rw [show zffo (σ.1 b 0) (σ.1 (b + 1)) (m + 1) i = zffo (σ.1 b 0) (σ.1 (b + 1)) m (i + 1) from if_neg hz] at hp
        refine V_run kX5_firstFault 3 [1] (show (zr (zfit (σ.1 b 0) (σ.1 (b + 1)) i) ∧ ¬ (zfit (σ.1 b 0) (σ.1 (b + 1)) i) = 0) ∧ V 2 MX5_firstFault 2 [some (vR 4 b), some (vZ (i + 1))] [] σ post from ⟨(by omega), ?_⟩)
        exact ih (i + 1) (by omega) (by omega) hp
  exact loop (σ.1 b 2).toNat 0 (by omega) (by omega) hp
theorem zflt_rng {p n : Int} {f : Int → Int} (h : 0 ≤ n) : zflt p f n = -1 ∨ (0 ≤ zflt p f n ∧ zflt p f n ≤ n) := by
  unfold zflt zfl2
  have h1 := zffo_rng p f n.toNat 0 (by omega)
  (repeat' split) <;> omega
set_option maxHeartbeats 4000000 in
/-- Text.whole -/
theorem c_T_whole {b : Nat} {σ : zSt} {post : Option VV → zSt → Prop} (hT : zTx σ b) (hp : post (some (vZ (zwho (σ.1 b 0) (σ.1 (b + 1)) (σ.1 b 2)))) σ) : Mc 3 MX5_whole [vR 4 b] σ post := by
  obtain ⟨hT1, hT2, hT3, hT4, hT5⟩ := id hT
  show V 3 MX5_whole 0 [some (vR 4 b)] [] σ post
  have hfr := zflt_rng (p := σ.1 b 0) (f := σ.1 (b + 1)) hT2
  refine V_run kX5_whole 1 [] (show V 3 MX5_whole 1 [some (vR 4 b)] [vR 4 b] σ post from ?_)
  refine V_callV (a := []) (rest := []) kX5_whole rfl oX5_firstFault iX5_firstFault lk_5_37 rfl rfl rfl (Nat.le_of_ble_eq_true rfl) (Nat.le_of_ble_eq_true rfl) (Nat.le_of_ble_eq_true rfl) (post' := fun v σ' => V 3 MX5_whole 4 [some (vR 4 b)] (v.toList ++ []) σ' post) (c_T_ff hT ((show V 3 MX5_whole 4 [some (vR 4 b)] [vZ (zflt (σ.1 b 0) (σ.1 (b + 1)) (σ.1 b 2))] σ post from ?_))) (fun _ _ h => h)
  refine V_run kX5_whole 1 [] (show V 3 MX5_whole 5 [some (vR 4 b)] [vZ (-1), vZ (zflt (σ.1 b 0) (σ.1 (b + 1)) (σ.1 b 2))] σ post from ?_)
  by_cases h1 : (zflt (σ.1 b 0) (σ.1 (b + 1)) (σ.1 b 2)) = (-1)
  · skip
    refine V_run kX5_whole 3 [1] (show (zr (zflt (σ.1 b 0) (σ.1 (b + 1)) (σ.1 b 2)) ∧ zr (-1) ∧ (zflt (σ.1 b 0) (σ.1 (b + 1)) (σ.1 b 2)) = (-1)) ∧ V 3 MX5_whole 14 [some (vR 4 b)] [vZ (σ.1 b 0)] σ post from ⟨(by omega), ?_⟩)
    by_cases h2 : (σ.1 b 0) = 0
    · skip
      refine V_run kX5_whole 3 [1] (show (zr (σ.1 b 0) ∧ (σ.1 b 0) = 0) ∧ V 3 MX5_whole 32 [some (vR 4 b)] [vZ (σ.1 b 2)] σ post from ⟨(by omega), ?_⟩)
      exact V_iret kX5_whole rfl rfl (z_eqI (by unfold zwho; (repeat' split) <;> omega) hp)
    · skip
      refine V_run kX5_whole 8 [0] (show (zr (σ.1 b 0) ∧ ¬ (σ.1 b 0) = 0) ∧ (0 ≤ ((σ.1 b 2) + 1) ∧ ((σ.1 b 2) + 1) < 2147483648 ∧ 0 < 4 ∧ 4 < 2147483648) ∧ V 3 MX5_whole 32 [some (vR 4 b)] [vZ (((σ.1 b 2) + 1) / 4)] σ post from ⟨(by omega), (by omega), ?_⟩)
      exact V_iret kX5_whole rfl rfl (z_eqI (by unfold zwho; (repeat' split) <;> omega) hp)
  · skip
    refine V_run kX5_whole 2 [0] (show (zr (zflt (σ.1 b 0) (σ.1 (b + 1)) (σ.1 b 2)) ∧ zr (-1) ∧ ¬ (zflt (σ.1 b 0) (σ.1 (b + 1)) (σ.1 b 2)) = (-1)) ∧ V 3 MX5_whole 9 [some (vR 4 b)] [vZ 0] σ post from ⟨(by omega), ?_⟩)
    exact V_iret kX5_whole rfl rfl (z_eqI (by unfold zwho; (repeat' split) <;> omega) hp)
set_option maxHeartbeats 4000000 in
/-- Text.append -/
theorem c_T_append {b : Nat} {v : Int} {σ : zSt} {post : Option VV → zSt → Prop} (hT : zTx σ b) (hp0 : σ.1 b 2 = zlen (b + 1) → post (some (vZ 0)) σ) (hp1 : σ.1 b 2 < zlen (b + 1) → post (some (vZ 1)) (uI (uI σ (b + 1) (σ.1 b 2) v) b 2 ((uI σ (b + 1) (σ.1 b 2) v).1 b 2 + 1))) : Mc 0 MX5_append [vR 4 b, vZ v] σ post := by
  obtain ⟨hT1, hT2, hT3, hT4, hT5⟩ := id hT
  show V 0 MX5_append 0 [some (vR 4 b), some (vZ v)] [] σ post
  refine V_run kX5_append 8 [0] (show (zr (σ.1 b 2) ∧ 0 ≤ (σ.1 b 2)) ∧ V 0 MX5_append 16 [some (vR 4 b), some (vZ v)] [vZ (zlen (b + 1)), vZ (σ.1 b 2)] σ post from ⟨(by omega), ?_⟩)
  rcases Int.lt_or_le (σ.1 b 2) (zlen (b + 1)) with h1 | h1
  · skip
    refine V_run kX5_append 14 [1] (show (zr (σ.1 b 2) ∧ zr (zlen (b + 1)) ∧ (σ.1 b 2) < (zlen (b + 1))) ∧ (0 ≤ (σ.1 b 2) ∧ (σ.1 b 2) < (zlen (b + 1))) ∧ V 0 MX5_append 42 [some (vR 4 b), some (vZ v)] [vZ 1] (uI (uI σ (b + 1) (σ.1 b 2) v) b 2 (((uI σ (b + 1) (σ.1 b 2) v).1 b 2) + 1)) post from ⟨(by omega), (by omega), ?_⟩)
    exact V_zret kX5_append rfl rfl (Or.inr rfl) (hp1 (by omega))
  · skip
    refine V_run kX5_append 2 [0] (show (zr (σ.1 b 2) ∧ zr (zlen (b + 1)) ∧ (zlen (b + 1)) ≤ (σ.1 b 2)) ∧ V 0 MX5_append 20 [some (vR 4 b), some (vZ v)] [vZ 0] σ post from ⟨(by omega), ?_⟩)
    exact V_zret kX5_append rfl rfl (Or.inl rfl) (hp0 (by omega))
set_option maxHeartbeats 4000000 in
/-- Text.dropLast -/
theorem c_T_drop {b : Nat} {σ : zSt} {post : Option VV → zSt → Prop} (hT : zTx σ b) (hp0 : σ.1 b 2 = 0 → post (some (vZ 0)) σ) (hp1 : 0 < σ.1 b 2 → post (some (vZ 1)) (uI σ b 2 (σ.1 b 2 - 1))) : Mc 0 MX5_dropLast [vR 4 b] σ post := by
  obtain ⟨hT1, hT2, hT3, hT4, hT5⟩ := id hT
  show V 0 MX5_dropLast 0 [some (vR 4 b)] [] σ post
  refine V_run kX5_dropLast 2 [] (show V 0 MX5_dropLast 4 [some (vR 4 b)] [vZ (σ.1 b 2)] σ post from ?_)
  rcases Int.lt_or_le 0 (σ.1 b 2) with h1 | h1
  · skip
    refine V_run kX5_dropLast 8 [1] (show (zr (σ.1 b 2) ∧ 0 < (σ.1 b 2)) ∧ V 0 MX5_dropLast 20 [some (vR 4 b)] [vZ 1] (uI σ b 2 ((σ.1 b 2) - 1)) post from ⟨(by omega), ?_⟩)
    exact V_zret kX5_dropLast rfl rfl (Or.inr rfl) (hp1 (by omega))
  · skip
    refine V_run kX5_dropLast 2 [0] (show (zr (σ.1 b 2) ∧ (σ.1 b 2) ≤ 0) ∧ V 0 MX5_dropLast 8 [some (vR 4 b)] [vZ 0] σ post from ⟨(by omega), ?_⟩)
    exact V_zret kX5_dropLast rfl rfl (Or.inl rfl) (hp0 (by omega))
set_option maxHeartbeats 4000000 in
/-- Text.clear -/
theorem c_T_clear {b : Nat} {σ : zSt} {post : Option VV → zSt → Prop}  (hp : post none (uI σ b 2 0)) : Mc 0 MX5_clear [vR 4 b] σ post := by
  show V 0 MX5_clear 0 [some (vR 4 b)] [] σ post
  refine V_run kX5_clear 3 [] (show V 0 MX5_clear 5 [some (vR 4 b)] [] (uI σ b 2 0) post from ?_)
  exact V_vret kX5_clear rfl rfl (hp)
