theorem zfit_at {f : Int → Int} {a r : Int} (h4 : a % 4 = 0) (r0 : 0 ≤ r) (r3 : r ≤ 3) : zfit 1 f (a + r) = if r = 0 then (if 97 ≤ f (a + r) ∧ f (a + r) ≤ 120 then 1 else 0) else if r = 1 then (if zsgn (f (a + r)) = -1 then 0 else 1) else if r = 2 then (if 49 ≤ f (a + r) ∧ f (a + r) ≤ 57 then 1 else 0) else (if f (a + r) = 59 then 1 else 0) := by
  unfold zfit
  rw [if_neg (by decide)]
  by_cases q0 : r = 0
  · rw [if_pos q0, if_pos (by omega)]
  · rw [if_neg q0, if_neg (by omega)]
    by_cases q1 : r = 1
    · rw [if_pos q1, if_pos (by omega)]
    · rw [if_neg q1, if_neg (by omega)]
      by_cases q2 : r = 2
      · rw [if_pos q2, if_pos (by omega)]
      · rw [if_neg q2, if_neg (by omega)]
theorem zby_in {f : Int → Int} {n i : Int} (h0 : 0 ≤ i) (h : zby f n i ≠ -1) : i < n ∧ zby f n i = f i := by
  unfold zby at h ⊢
  by_cases q : 0 ≤ i ∧ i < n
  · rw [if_pos q]; exact ⟨q.2, rfl⟩
  · rw [if_neg q] at h; exact absurd rfl h
theorem zby_lt {f : Int → Int} {n i : Int} (h0 : 0 ≤ i) (h : i < n) : zby f n i = f i := if_pos ⟨h0, h⟩
theorem zsgn_m1 : zsgn (-1) = -1 := rfl
theorem zend_yes {n : Int} (h : n = 0 ∨ n % 4 = 3) : zend 1 n = 1 := if_pos (Or.inr h)
theorem zend_no {n : Int} (h : ¬ (n = 0 ∨ n % 4 = 3)) : zend 1 n = 0 := if_neg (fun q => q.elim (by decide) h)
set_option maxHeartbeats 4000000 in
set_option maxRecDepth 100000 in
/-- openBy -/
theorem c_M_openBy {z : Int} {σ : zSt} {post : Option VV → zSt → Prop} (hz : zr z) (hp : post (some (vZ (zopn z))) σ) : Mc 0 MX7_openBy [vZ z] σ post := by
  unfold zopn at hp
  show V 0 MX7_openBy 0 [some (vZ z)] [] σ post
  refine V_run kX7_openBy 2 [] (show V 0 MX7_openBy 3 [some (vZ z)] [vZ 110, vZ z] σ post from ?_)
  by_cases q110 : z = 110
  · skip
    rw [if_pos q110] at hp
    refine V_run kX7_openBy 3 [0] (show (zr z ∧ zr 110 ∧ z = 110) ∧ V 0 MX7_openBy 41 [some (vZ z)] [vZ 0] σ post from ⟨(by omega), ?_⟩)
    exact V_iret kX7_openBy rfl rfl (hp)
  · skip
    rw [if_neg q110] at hp
    refine V_run kX7_openBy 3 [1] (show (zr z ∧ zr 110 ∧ ¬ z = 110) ∧ V 0 MX7_openBy 13 [some (vZ z)] [vZ 102, vZ z] σ post from ⟨(by omega), ?_⟩)
    by_cases q102 : z = 102
    · skip
      rw [if_pos q102] at hp
      refine V_run kX7_openBy 3 [0] (show (zr z ∧ zr 102 ∧ z = 102) ∧ V 0 MX7_openBy 41 [some (vZ z)] [vZ 1] σ post from ⟨(by omega), ?_⟩)
      exact V_iret kX7_openBy rfl rfl (hp)
    · skip
      rw [if_neg q102] at hp
      refine V_run kX7_openBy 3 [1] (show (zr z ∧ zr 102 ∧ ¬ z = 102) ∧ V 0 MX7_openBy 23 [some (vZ z)] [vZ 98, vZ z] σ post from ⟨(by omega), ?_⟩)
      by_cases q98 : z = 98
      · skip
        rw [if_pos q98] at hp
        refine V_run kX7_openBy 3 [0] (show (zr z ∧ zr 98 ∧ z = 98) ∧ V 0 MX7_openBy 41 [some (vZ z)] [vZ 2] σ post from ⟨(by omega), ?_⟩)
        exact V_iret kX7_openBy rfl rfl (hp)
      · skip
        rw [if_neg q98] at hp
        refine V_run kX7_openBy 3 [1] (show (zr z ∧ zr 98 ∧ ¬ z = 98) ∧ V 0 MX7_openBy 33 [some (vZ z)] [vZ 116, vZ z] σ post from ⟨(by omega), ?_⟩)
        by_cases q116 : z = 116
        · skip
          rw [if_pos q116] at hp
          refine V_run kX7_openBy 3 [0] (show (zr z ∧ zr 116 ∧ z = 116) ∧ V 0 MX7_openBy 41 [some (vZ z)] [vZ 3] σ post from ⟨(by omega), ?_⟩)
          exact V_iret kX7_openBy rfl rfl (hp)
        · skip
          rw [if_neg q116] at hp
          refine V_run kX7_openBy 2 [1] (show (zr z ∧ zr 116 ∧ ¬ z = 116) ∧ V 0 MX7_openBy 41 [some (vZ z)] [vZ (-1)] σ post from ⟨(by omega), ?_⟩)
          exact V_iret kX7_openBy rfl rfl (hp)
set_option maxHeartbeats 4000000 in
set_option maxRecDepth 100000 in
/-- readsPeople -/
theorem c_M_readsPeople {σ : zSt} {post : Option VV → zSt → Prop} (hT : zTm σ) (hp : ∀ σ', rFr σ σ' → zTdP σ' → post (some (vZ (zflt 1 (σ.1 46) (σ.1 45 0)))) σ') : Mc 3 MX7_readsPeople [vR 6 44] σ post := by
  obtain ⟨N, hN⟩ : ∃ x, x = σ.1 45 0 := ⟨_, rfl⟩
  obtain ⟨f, hf⟩ : ∃ x, x = σ.1 46 := ⟨_, rfl⟩
  have hNr := hT.1
  rw [← hN] at hNr
  rw [← hN, ← hf] at hp
  have done : ∀ (x n : Int) (σ1 : zSt), rFr σ σ1 → x = zflt 1 f N → n = zwho 1 f N → σ1.1 44 2 = n → (∀ q : Int, 0 ≤ q → q < n → σ1.1 47 q = f (4 * q) - 97 ∧ σ1.1 48 q = zsgn (f (4 * q + 1)) ∧ σ1.1 49 q = f (4 * q + 2) - 48) → post (some (vZ x)) σ1 := by
    intro x n σ1 hf1 hx hn h2 hd
    rw [hx]
    refine hp σ1 hf1 ⟨?_, ?_⟩
    · rw [hf1.t.1, hf1.t.2, ← hN, ← hf, ← hn]; exact h2
    · rw [hf1.t.1, hf1.t.2, ← hN, ← hf, ← hn]; exact hd
  have loop : ∀ (m : Nat) (n a : Int), 0 ≤ n → n + m = 12 → a = 4 * n → a ≤ N → ∀ σ1 : zSt, rFr σ σ1 → σ1.1 44 2 = 0 → (∀ j : Int, 0 ≤ j → j < a → zfit 1 f j = 1) → (∀ q : Int, 0 ≤ q → q < n → σ1.1 47 q = f (4 * q) - 97 ∧ σ1.1 48 q = zsgn (f (4 * q + 1)) ∧ σ1.1 49 q = f (4 * q + 2) - 48) → V 3 MX7_readsPeople 9 [some (vR 6 44), some (vZ n), some (vZ a), none] [] σ1 post := by
    intro m
    induction m with
    | zero =>
      intro n a n0 n1 ha haN
      exfalso
      omega
    | succ m ih =>
      intro n a n0 n1 ha haN σ1 hf1 h2 hd hq
      have hT1 := zTm_r hf1 hT
      have t1 : σ1.1 45 0 = N := by rw [hf1.t.1]; exact hN.symm
      have t2 : σ1.1 46 = f := by rw [hf1.t.2]; exact hf.symm
      have hbr := fun i => zby_rng (k := i) hT1
      rw [t1, t2] at hbr
      have body : ¬ (a = 0 ∧ N = 0) → V 3 MX7_readsPeople 23 [some (vR 6 44), some (vZ n), some (vZ a), none] [] σ1 post := by
        intro hne
        refine V_run kX7_readsPeople 3 [] (show V 3 MX7_readsPeople 26 [some (vR 6 44), some (vZ n), some (vZ a), none] [vZ a, vZ n, vR 6 44] σ1 post from ?_)
        refine V_callV (a := [vZ n, vZ a]) (rest := []) kX7_readsPeople rfl oX7_readsPerson iX7_readsPerson lk_7_123 rfl rfl rfl (Nat.le_of_ble_eq_true rfl) (Nat.le_of_ble_eq_true rfl) (Nat.le_of_ble_eq_true rfl) (post' := fun zv zσ => V 3 MX7_readsPeople 29 [some (vR 6 44), some (vZ n), some (vZ a), none] (zv.toList ++ []) zσ post) (c_M_readsPerson hT1 n0 (by omega) (by omega) (by omega) (fun r σ2 hr => (show V 3 MX7_readsPeople 29 [some (vR 6 44), some (vZ n), some (vZ a), none] [vZ r] σ2 post from ?_))) (fun _ _ h => h)
        rw [t1, t2] at hr
        have hrr : 0 ≤ r ∧ r ≤ 3 := by rcases hr with q | q | q | q <;> omega
        refine V_run kX7_readsPeople 3 [] (show V 3 MX7_readsPeople 32 [some (vR 6 44), some (vZ n), some (vZ a), some (vZ r)] [vZ 3, vZ r] σ2 post from ?_)
        rcases Int.lt_or_le r 3 with h3 | h3
        · skip
          refine V_run kX7_readsPeople 4 [0] (show (zr r ∧ zr 3 ∧ r < 3) ∧ V 3 MX7_readsPeople 38 [some (vR 6 44), some (vZ n), some (vZ a), some (vZ r)] [vZ (a + r)] σ2 post from ⟨(by omega), ?_⟩)
          have hs2 : σ2 = σ1 := by rcases hr with q | q | q | q; exact q.2.2; exact q.2.2.2; exact q.2.2.2.2; omega
          subst hs2
          have fa := fun r a1 a2 => zfit_at (f := f) (a := a) (r := r) (by omega) a1 a2
          have pre : ∀ j : Int, 0 ≤ j → j < a + r → zfit 1 f j = 1 ∧ j < N := by
            intro j j0 j1
            by_cases hja : j < a
            · exact ⟨hd j j0 hja, by omega⟩
            · rcases hr with q | q | q | q
              · omega
              · have hj : j = a + 0 := by omega
                have hb := zby_in (f := f) (n := N) (i := a) (by omega) (by omega)
                rw [hj, fa 0 (by omega) (by omega), if_pos rfl, Int.add_zero]
                exact ⟨if_pos (by rw [← hb.2]; exact q.2.1), hb.1⟩
              · have hb := zby_in (f := f) (n := N) (i := a) (by omega) (by omega)
                have hb1 := zby_in (f := f) (n := N) (i := a + 1) (by omega) (fun z => q.2.2.1 (by rw [z]; exact zsgn_m1))
                by_cases hj0 : j = a
                · have hj : j = a + 0 := by omega
                  rw [hj, fa 0 (by omega) (by omega), if_pos rfl, Int.add_zero]
                  exact ⟨if_pos (by rw [← hb.2]; exact q.2.1), hb.1⟩
                · have hj : j = a + 1 := by omega
                  rw [hj, fa 1 (by omega) (by omega), if_neg (by decide), if_pos rfl]
                  exact ⟨if_neg (by rw [← hb1.2]; exact q.2.2.1), hb1.1⟩
              · omega
          have here : a + r < N → zfit 1 f (a + r) = 0 := by
            intro hl
            have hb := zby_lt (f := f) (n := N) (i := a + r) (by omega) hl
            rw [fa r hrr.1 hrr.2]
            rcases hr with q | q | q | q
            · rw [if_pos q.1, ← hb, q.1, Int.add_zero]; exact if_neg q.2.1
            · rw [if_neg (by omega), if_pos q.1, ← hb, q.1]; exact if_pos q.2.2.1
            · rw [if_neg (by omega), if_neg (by omega), if_pos q.1, ← hb, q.1]; exact if_neg q.2.2.2.1
            · omega
          have hle : a + r ≤ N := by
            by_cases hr0 : r = 0
            · omega
            · have := (pre (a + r - 1) (by omega) (by omega)).2; omega
          have hflt : a + r = zflt 1 f N := by
            by_cases hl : a + r < N
            · exact (zflt_at (by omega) hl (fun j a b => (pre j a b).1) (here hl)).symm
            · rw [zflt_no (fun j a b => (pre j a (by omega)).1)]
              rw [zend_no (by omega), if_pos rfl]
              omega
          have hwho : 0 = zwho 1 f N := by
            unfold zwho
            rw [if_neg (by rw [← hflt]; omega)]
          exact V_iret kX7_readsPeople rfl rfl (done _ 0 σ2 hf1 hflt hwho h2 (fun q a b => by omega))
        · skip
          obtain ⟨r3, g0, g1, g2, hs2⟩ : r = 3 ∧ (97 ≤ zby f N a ∧ zby f N a ≤ 120) ∧ ¬ zsgn (zby f N (a + 1)) = -1 ∧ (49 ≤ zby f N (a + 2) ∧ zby f N (a + 2) ≤ 57) ∧ σ2 = uI (uI (uI σ1 47 n (zby f N a - 97)) 48 n (zsgn (zby f N (a + 1)))) 49 n (zby f N (a + 2) - 48) := by
            rcases hr with q | q | q | q
            · omega
            · omega
            · omega
            · exact q
          have b0 := zby_in (f := f) (n := N) (i := a) (by omega) (by omega)
          have b1 := zby_in (f := f) (n := N) (i := a + 1) (by omega) (fun z => g1 (by rw [z]; exact zsgn_m1))
          have b2 := zby_in (f := f) (n := N) (i := a + 2) (by omega) (by omega)
          have fa := fun r a1 a2 => zfit_at (f := f) (a := a) (r := r) (by omega) a1 a2
          have pre : ∀ j : Int, 0 ≤ j → j < a + 3 → zfit 1 f j = 1 := by
            intro j j0 j1
            by_cases hja : j < a
            · exact hd j j0 hja
            · by_cases j2 : j = a
              · rw [show j = a + 0 by omega, fa 0 (by omega) (by omega), if_pos rfl, Int.add_zero]; exact if_pos (by rw [← b0.2]; exact g0)
              · by_cases j3 : j = a + 1
                · rw [j3, fa 1 (by omega) (by omega), if_neg (by decide), if_pos rfl]; exact if_neg (by rw [← b1.2]; exact g1)
                · rw [show j = a + 2 by omega, fa 2 (by omega) (by omega), if_neg (by decide), if_neg (by decide), if_pos rfl]; exact if_pos (by rw [← b2.2]; exact g2)
          have hf2 : rFr σ σ2 := by rw [hs2]; exact rFr.u (rFr.u (rFr.u hf1 (by decide) (by decide)) (by decide) (by decide)) (by decide) (by decide)
          have h22 : σ2.1 44 2 = 0 := by rw [hs2]; exact h2
          have hT2 := zTm_r hf2 hT
          have t12 : σ2.1 45 0 = N := by rw [hf2.t.1]; exact hN.symm
          have t22 : σ2.1 46 = f := by rw [hf2.t.2]; exact hf.symm
          have hq2 : ∀ q : Int, 0 ≤ q → q < n + 1 → σ2.1 47 q = f (4 * q) - 97 ∧ σ2.1 48 q = zsgn (f (4 * q + 1)) ∧ σ2.1 49 q = f (4 * q + 2) - 48 := by
            intro q q0 q1
            rw [hs2, uI_ne (by decide), uI_ne (by decide), uI_at, uI_ne (by decide), uI_at, uI_ne (by decide), uI_at, uI_ne (by decide), uI_ne (by decide)]
            by_cases hqn : q = n
            · rw [if_pos hqn, if_pos hqn, if_pos hqn, b0.2, b1.2, b2.2, hqn, ha]; exact ⟨rfl, rfl, rfl⟩
            · rw [if_neg hqn, if_neg hqn, if_neg hqn]; exact hq q q0 (by omega)
          refine V_run kX7_readsPeople 8 [1] (show (zr r ∧ zr 3 ∧ 3 ≤ r) ∧ (0 ≤ 0 ∧ 0 < 2) ∧ V 3 MX7_readsPeople 52 [some (vR 6 44), some (vZ (n + 1)), some (vZ (a + 3)), some (vZ r)] [vZ (σ2.1 45 0), vZ (a + 3)] σ2 post from ⟨(by omega), (by omega), ?_⟩)
          refine V_top (t12) ?_
          by_cases h5 : a + 3 = N
          · skip
            refine V_run kX7_readsPeople 5 [0] (show (zr (a + 3) ∧ zr N ∧ (a + 3) = N) ∧ V 3 MX7_readsPeople 61 [some (vR 6 44), some (vZ (n + 1)), some (vZ (a + 3)), some (vZ r)] [vZ (-1)] (uI σ2 44 2 (n + 1)) post from ⟨(by omega), ?_⟩)
            have hflt : (-1 : Int) = zflt 1 f N := by
              rw [zflt_no (fun j a b => pre j a (by omega))]
              rw [zend_yes (by omega), if_neg (by decide)]
            have hwho : n + 1 = zwho 1 f N := by
              unfold zwho
              rw [if_pos hflt.symm, if_neg (by decide)]
              omega
            exact V_iret kX7_readsPeople rfl rfl (done (-1) (n + 1) _ (rFr.s hf2 (Or.inl rfl)) hflt hwho uI_get hq2)
          · skip
            refine V_run kX7_readsPeople 3 [1] (show (zr (a + 3) ∧ zr N ∧ ¬ (a + 3) = N) ∧ V 3 MX7_readsPeople 64 [some (vR 6 44), some (vZ (n + 1)), some (vZ (a + 3)), some (vZ r)] [vZ (a + 3), vR 6 44] σ2 post from ⟨(by omega), ?_⟩)
            refine V_callV (a := [vZ (a + 3)]) (rest := []) kX7_readsPeople rfl oX7_byteAt iX7_byteAt lk_7_112 rfl rfl rfl (Nat.le_of_ble_eq_true rfl) (Nat.le_of_ble_eq_true rfl) (Nat.le_of_ble_eq_true rfl) (post' := fun zv zσ => V 3 MX7_readsPeople 67 [some (vR 6 44), some (vZ (n + 1)), some (vZ (a + 3)), some (vZ r)] (zv.toList ++ []) zσ post) (c_M_byteAt hT2 (by omega) (by omega) ((show V 3 MX7_readsPeople 67 [some (vR 6 44), some (vZ (n + 1)), some (vZ (a + 3)), some (vZ r)] [vZ (zby (σ2.1 46) (σ2.1 45 0) (a + 3))] σ2 post from ?_))) (fun _ _ h => h)
            refine V_top (by rw [t12, t22]) ?_
            have hb3 := hbr (a + 3)
            have b3 := zby_lt (f := f) (n := N) (i := a + 3) (by omega) (by omega)
            refine V_run kX7_readsPeople 1 [] (show V 3 MX7_readsPeople 69 [some (vR 6 44), some (vZ (n + 1)), some (vZ (a + 3)), some (vZ r)] [vZ 59, vZ (zby f N (a + 3))] σ2 post from ?_)
            by_cases h6 : zby f N (a + 3) = 59
            · skip
              refine V_run kX7_readsPeople 3 [1] (show (zr (zby f N (a + 3)) ∧ zr 59 ∧ (zby f N (a + 3)) = 59) ∧ V 3 MX7_readsPeople 9 [some (vR 6 44), some (vZ (n + 1)), some (vZ ((a + 3) + 1)), some (vZ r)] [] σ2 post from ⟨(by omega), ?_⟩)
              refine V_drop (L := [some (vR 6 44), some (vZ (n + 1)), some (vZ ((a + 3) + 1)), none]) ⟨rfl, ⟨rfl, ⟨rfl, trivial⟩⟩⟩ ?_
              refine ih (n + 1) (a + 3 + 1) (by omega) (by omega) (by omega) (by omega) σ2 hf2 h22 (fun j j0 j1 => ?_) hq2
              by_cases hj : j = a + 3
              · rw [hj, fa 3 (by omega) (by omega), if_neg (by decide), if_neg (by decide), if_neg (by decide)]; exact if_pos (by rw [← b3]; exact h6)
              · exact pre j j0 (by omega)
            · skip
              refine V_run kX7_readsPeople 2 [0] (show (zr (zby f N (a + 3)) ∧ zr 59 ∧ ¬ (zby f N (a + 3)) = 59) ∧ V 3 MX7_readsPeople 73 [some (vR 6 44), some (vZ (n + 1)), some (vZ (a + 3)), some (vZ r)] [vZ (a + 3)] σ2 post from ⟨(by omega), ?_⟩)
              have hflt : a + 3 = zflt 1 f N := by
                refine (zflt_at (by omega) (by omega) pre ?_).symm
                rw [fa 3 (by omega) (by omega), if_neg (by decide), if_neg (by decide), if_neg (by decide)]
                exact if_neg (by rw [← b3]; exact h6)
              have hwho : 0 = zwho 1 f N := by
                unfold zwho
                rw [if_neg (by rw [← hflt]; omega)]
              exact V_iret kX7_readsPeople rfl rfl (done _ 0 σ2 hf2 hflt hwho h22 (fun q a b => by omega))
      refine V_run kX7_readsPeople 5 [] (show (0 ≤ 0 ∧ 0 < 2) ∧ V 3 MX7_readsPeople 16 [some (vR 6 44), some (vZ n), some (vZ a), none] [vZ (σ1.1 45 0), vZ a] σ1 post from ⟨(by omega), ?_⟩)
      refine V_top (t1) ?_
      rcases Int.lt_or_le a N with h7 | h7
      · skip
        refine V_run kX7_readsPeople 1 [1] (show (zr a ∧ zr N ∧ a < N) ∧ V 3 MX7_readsPeople 23 [some (vR 6 44), some (vZ n), some (vZ a), none] [] σ1 post from ⟨(by omega), ?_⟩)
        exact body (by omega)
      · skip
        refine V_run kX7_readsPeople 2 [0] (show (zr a ∧ zr N ∧ N ≤ a) ∧ V 3 MX7_readsPeople 20 [some (vR 6 44), some (vZ n), some (vZ a), none] [vZ a] σ1 post from ⟨(by omega), ?_⟩)
        rcases Int.lt_or_le 0 a with h8 | h8
        · skip
          refine V_run kX7_readsPeople 1 [0] (show (zr a ∧ 0 < a) ∧ V 3 MX7_readsPeople 23 [some (vR 6 44), some (vZ n), some (vZ a), none] [] σ1 post from ⟨(by omega), ?_⟩)
          exact body (by omega)
        · skip
          refine V_run kX7_readsPeople 2 [1] (show (zr a ∧ a ≤ 0) ∧ V 3 MX7_readsPeople 81 [some (vR 6 44), some (vZ n), some (vZ a), none] [vZ (-1)] σ1 post from ⟨(by omega), ?_⟩)
          have hN0 : N = 0 := by omega
          have hflt : (-1 : Int) = zflt 1 f N := by
            rw [zflt_no (fun j a b => by omega)]
            rw [zend_yes (by omega), if_neg (by decide)]
          have hwho : 0 = zwho 1 f N := by
            unfold zwho
            rw [if_pos hflt.symm, if_neg (by decide)]
            omega
          exact V_iret kX7_readsPeople rfl rfl (done (-1) 0 σ1 hf1 hflt hwho h2 (fun q a b => by omega))
  show V 3 MX7_readsPeople 0 [some (vR 6 44), none, none, none] [] σ post
  refine V_run kX7_readsPeople 7 [] (show V 3 MX7_readsPeople 9 [some (vR 6 44), some (vZ 0), some (vZ 0), none] [] (uI σ 44 2 0) post from ?_)
  exact loop 12 0 0 (by omega) (by omega) (by omega) (by omega) _ (rFr.s rFr.rf (Or.inl rfl)) uI_get (fun j a b => by omega) (fun q a b => by omega)
set_option maxHeartbeats 4000000 in
set_option maxRecDepth 100000 in
/-- readsWindows -/
theorem c_M_readsWindows {σ : zSt} {post : Option VV → zSt → Prop} (hT : zTm σ) (hp : ∀ σ', rFr σ σ' → zTdW σ' → σ'.1 44 2 = σ.1 44 2 → (∀ a : Nat, 47 ≤ a → a ≤ 49 → σ'.1 a = σ.1 a) → post (some (vZ (zflt 0 (zGt σ) (σ.1 45 1)))) σ') : Mc 1 MX7_readsWindows [vR 6 44] σ post := by
  obtain ⟨N, hN⟩ : ∃ x, x = σ.1 45 1 := ⟨_, rfl⟩
  obtain ⟨f, hf⟩ : ∃ x, x = zGt σ := ⟨_, rfl⟩
  have hNr := hT.2.1
  rw [← hN] at hNr
  rw [← hN, ← hf] at hp
  have hby : ∀ i : Int, 0 ≤ i → i < N → zr (f i) := fun i a b => by have := hT.2.2.2 i a (by omega); rw [hf]; show zr (σ.1 46 (47 + i)); omega
  have done : ∀ (x n : Int) (σ1 : zSt), rFr σ σ1 → x = zflt 0 f N → n = zwho 0 f N → σ1.1 44 6 = n → σ1.1 44 2 = σ.1 44 2 → (∀ a : Nat, 47 ≤ a → a ≤ 49 → σ1.1 a = σ.1 a) → (∀ t : Int, 0 ≤ t → t < 24 → σ1.1 50 t = if t < n then zopn (f t) else 1) → post (some (vZ x)) σ1 := by
    intro x n σ1 hf1 hx hn h2 h22 h4 hd
    have hg : zGt σ1 = zGt σ := by unfold zGt; rw [hf1.t.2]
    rw [hx]
    refine hp σ1 hf1 ⟨?_, ?_⟩ h22 h4
    · rw [hf1.t.1, hg, ← hN, ← hf, ← hn]; exact h2
    · rw [hf1.t.1, hg, ← hN, ← hf, ← hn]; exact hd
  have loop3 : (∀ j : Int, 0 ≤ j → j < N → ¬ zopn (f j) = -1) → ∀ (m : Nat) (i : Int), 0 ≤ i → i + m = N → ∀ σ1 : zSt, rFr σ σ1 → σ1.1 44 6 = 0 → σ1.1 44 2 = σ.1 44 2 → (∀ a : Nat, 47 ≤ a → a ≤ 49 → σ1.1 a = σ.1 a) → (∀ t : Int, 0 ≤ t → t < 24 → σ1.1 50 t = if t < i then zopn (f t) else 1) → V 1 MX7_readsWindows 64 [some (vR 6 44), some (vZ i)] [] σ1 post := by
    intro hall m
    induction m with
    | zero =>
      intro i i0 i1 σ1 hf1 h6 h2 h4 hd
      have t1 : σ1.1 45 1 = N := by rw [hf1.t.1]; exact hN.symm
      refine V_run kX7_readsWindows 5 [] (show (0 ≤ 1 ∧ 1 < 2) ∧ V 1 MX7_readsWindows 71 [some (vR 6 44), some (vZ i)] [vZ (σ1.1 45 1), vZ i] σ1 post from ⟨(by omega), ?_⟩)
      refine V_top (t1) ?_
      refine V_run kX7_readsWindows 6 [1] (show (zr i ∧ zr N ∧ N ≤ i) ∧ (0 ≤ 1 ∧ 1 < 2) ∧ V 1 MX7_readsWindows 105 [some (vR 6 44), some (vZ i)] [vZ (σ1.1 45 1), vR 6 44] σ1 post from ⟨(by omega), (by omega), ?_⟩)
      refine V_top (t1) ?_
      refine V_run kX7_readsWindows 2 [] (show V 1 MX7_readsWindows 109 [some (vR 6 44), some (vZ i)] [vZ (-1)] (uI σ1 44 6 N) post from ?_)
      have hfit : ∀ j : Int, 0 ≤ j → j < N → zfit 0 f j = 1 := fun j a b => by unfold zfit; rw [if_pos rfl]; exact if_neg (hall j a b)
      have hflt : (-1 : Int) = zflt 0 f N := by
        rw [zflt_no hfit]
        exact (if_neg (by show ¬ (if (0 : Int) = 0 ∨ N = 0 ∨ N % 4 = 3 then (1 : Int) else 0) = 0; rw [if_pos (Or.inl rfl)]; decide)).symm
      have hwho : N = zwho 0 f N := by
        unfold zwho
        rw [if_pos hflt.symm, if_pos rfl]
      have hiN : i = N := by omega
      rw [hiN] at hd
      exact V_iret kX7_readsWindows rfl rfl (done (-1) N _ (rFr.s hf1 (Or.inr rfl)) hflt hwho uI_get h2 (fun a b c => by rw [uI_ne (by omega)]; exact h4 a b c) hd)
    | succ m ih =>
      intro i i0 i1 σ1 hf1 h6 h2 h4 hd
      have t1 : σ1.1 45 1 = N := by rw [hf1.t.1]; exact hN.symm
      have t2 : σ1.1 46 (47 + i) = f i := by rw [hf1.t.2, hf]; rfl
      have hzi := hby i i0 (by omega)
      refine V_run kX7_readsWindows 5 [] (show (0 ≤ 1 ∧ 1 < 2) ∧ V 1 MX7_readsWindows 71 [some (vR 6 44), some (vZ i)] [vZ (σ1.1 45 1), vZ i] σ1 post from ⟨(by omega), ?_⟩)
      refine V_top (t1) ?_
      refine V_run kX7_readsWindows 10 [0] (show (zr i ∧ zr N ∧ i < N) ∧ (0 ≤ (47 + i) ∧ (47 + i) < 94) ∧ V 1 MX7_readsWindows 88 [some (vR 6 44), some (vZ i)] [vZ (σ1.1 46 (47 + i)), vZ i, vR 8 50] σ1 post from ⟨(by omega), (by omega), ?_⟩)
      refine V_top (t2) ?_
      refine V_callS (a := [vZ (f i)]) (rest := [vZ i, vR 8 50]) kX7_readsWindows rfl oX7_openBy iX7_openBy lk_7_130 rfl rfl (Nat.le_of_ble_eq_true rfl) (Nat.le_of_ble_eq_true rfl) (Nat.le_of_ble_eq_true rfl) (post' := fun zv zσ => V 1 MX7_readsWindows 91 [some (vR 6 44), some (vZ i)] (zv.toList ++ [vZ i, vR 8 50]) zσ post) (c_M_openBy hzi ((show V 1 MX7_readsWindows 91 [some (vR 6 44), some (vZ i)] [vZ (zopn (f i)), vZ i, vR 8 50] σ1 post from ?_))) (fun _ _ h => h)
      refine V_run kX7_readsWindows 3 [] (show (0 ≤ i ∧ i < 24) ∧ V 1 MX7_readsWindows 64 [some (vR 6 44), some (vZ (i + 1))] [] (uI σ1 50 i (zopn (f i))) post from ⟨(by omega), ?_⟩)
      refine ih (i + 1) (by omega) (by omega) _ (rFr.u hf1 (by decide) (by decide)) (by rw [uI_ne (by decide)]; exact h6) (by rw [uI_ne (by decide)]; exact h2) (fun a b c => by rw [uI_ne (by omega)]; exact h4 a b c) (fun t a b => ?_)
      rw [uI_at]
      by_cases ht : t = i
      · rw [if_pos ht, if_pos (by omega), ht]
      · rw [if_neg ht, hd t a b]
        by_cases h8 : t < i
        · rw [if_pos h8, if_pos (by omega)]
        · rw [if_neg h8, if_neg (by omega)]
  have loop2 : ∀ (m : Nat) (i : Int), 0 ≤ i → i + m = N → (∀ j : Int, 0 ≤ j → j < i → ¬ zopn (f j) = -1) → ∀ σ1 : zSt, rFr σ σ1 → σ1.1 44 6 = 0 → σ1.1 44 2 = σ.1 44 2 → (∀ a : Nat, 47 ≤ a → a ≤ 49 → σ1.1 a = σ.1 a) → (∀ t : Int, 0 ≤ t → t < 24 → σ1.1 50 t = 1) → V 1 MX7_readsWindows 28 [some (vR 6 44), some (vZ i)] [] σ1 post := by
    intro m
    induction m with
    | zero =>
      intro i i0 i1 hall σ1 hf1 h6 h2 h4 hd
      have t1 : σ1.1 45 1 = N := by rw [hf1.t.1]; exact hN.symm
      refine V_run kX7_readsWindows 5 [] (show (0 ≤ 1 ∧ 1 < 2) ∧ V 1 MX7_readsWindows 35 [some (vR 6 44), some (vZ i)] [vZ (σ1.1 45 1), vZ i] σ1 post from ⟨(by omega), ?_⟩)
      refine V_top (t1) ?_
      refine V_run kX7_readsWindows 3 [1] (show (zr i ∧ zr N ∧ N ≤ i) ∧ V 1 MX7_readsWindows 64 [some (vR 6 44), some (vZ 0)] [] σ1 post from ⟨(by omega), ?_⟩)
      exact loop3 (fun j a b => hall j a (by omega)) N.toNat 0 (by omega) (by omega) σ1 hf1 h6 h2 h4 (fun t a b => by rw [if_neg (by omega)]; exact hd t a b)
    | succ m ih =>
      intro i i0 i1 hall σ1 hf1 h6 h2 h4 hd
      have t1 : σ1.1 45 1 = N := by rw [hf1.t.1]; exact hN.symm
      have t2 : σ1.1 46 (47 + i) = f i := by rw [hf1.t.2, hf]; rfl
      have hzi := hby i i0 (by omega)
      have hor := zopn_rng (f i)
      refine V_run kX7_readsWindows 5 [] (show (0 ≤ 1 ∧ 1 < 2) ∧ V 1 MX7_readsWindows 35 [some (vR 6 44), some (vZ i)] [vZ (σ1.1 45 1), vZ i] σ1 post from ⟨(by omega), ?_⟩)
      refine V_top (t1) ?_
      refine V_run kX7_readsWindows 7 [0] (show (zr i ∧ zr N ∧ i < N) ∧ (0 ≤ (47 + i) ∧ (47 + i) < 94) ∧ V 1 MX7_readsWindows 47 [some (vR 6 44), some (vZ i)] [vZ (σ1.1 46 (47 + i))] σ1 post from ⟨(by omega), (by omega), ?_⟩)
      refine V_top (t2) ?_
      refine V_callS (a := [vZ (f i)]) (rest := []) kX7_readsWindows rfl oX7_openBy iX7_openBy lk_7_130 rfl rfl (Nat.le_of_ble_eq_true rfl) (Nat.le_of_ble_eq_true rfl) (Nat.le_of_ble_eq_true rfl) (post' := fun zv zσ => V 1 MX7_readsWindows 50 [some (vR 6 44), some (vZ i)] (zv.toList ++ []) zσ post) (c_M_openBy hzi ((show V 1 MX7_readsWindows 50 [some (vR 6 44), some (vZ i)] [vZ (zopn (f i))] σ1 post from ?_))) (fun _ _ h => h)
      refine V_run kX7_readsWindows 1 [] (show V 1 MX7_readsWindows 51 [some (vR 6 44), some (vZ i)] [vZ (-1), vZ (zopn (f i))] σ1 post from ?_)
      by_cases h9 : zopn (f i) = -1
      · skip
        refine V_run kX7_readsWindows 2 [0] (show (zr (zopn (f i)) ∧ zr (-1) ∧ (zopn (f i)) = (-1)) ∧ V 1 MX7_readsWindows 55 [some (vR 6 44), some (vZ i)] [vZ i] σ1 post from ⟨(by omega), ?_⟩)
        have hflt : i = zflt 0 f N := by
          refine (zflt_at i0 (by omega) (fun j a b => ?_) ?_).symm
          · unfold zfit; rw [if_pos rfl]; exact if_neg (hall j a b)
          · unfold zfit; rw [if_pos rfl]; exact if_pos h9
        have hwho : 0 = zwho 0 f N := by
          unfold zwho
          rw [if_neg (by rw [← hflt]; omega)]
        exact V_iret kX7_readsWindows rfl rfl (done i 0 σ1 hf1 hflt hwho h6 h2 h4 (fun t a b => by rw [if_neg (by omega)]; exact hd t a b))
      · skip
        refine V_run kX7_readsWindows 3 [1] (show (zr (zopn (f i)) ∧ zr (-1) ∧ ¬ (zopn (f i)) = (-1)) ∧ V 1 MX7_readsWindows 28 [some (vR 6 44), some (vZ (i + 1))] [] σ1 post from ⟨(by omega), ?_⟩)
        exact ih (i + 1) (by omega) (by omega) (fun j a b => if q : j = i then by rw [q]; exact h9 else hall j a (by omega)) σ1 hf1 h6 h2 h4 hd
  have loop1 : ∀ (m : Nat) (i : Int), 0 ≤ i → i + m = 24 → ∀ σ1 : zSt, rFr σ σ1 → σ1.1 44 6 = 0 → σ1.1 44 2 = σ.1 44 2 → (∀ a : Nat, 47 ≤ a → a ≤ 49 → σ1.1 a = σ.1 a) → (∀ t : Int, 0 ≤ t → t < i → σ1.1 50 t = 1) → V 1 MX7_readsWindows 7 [some (vR 6 44), some (vZ i)] [] σ1 post := by
    intro m
    induction m with
    | zero =>
      intro i i0 i1 σ1 hf1 h6 h2 h4 hd
      refine V_run kX7_readsWindows 5 [1] (show (zr i ∧ zr 24 ∧ 24 ≤ i) ∧ V 1 MX7_readsWindows 28 [some (vR 6 44), some (vZ 0)] [] σ1 post from ⟨(by omega), ?_⟩)
      exact loop2 N.toNat 0 (by omega) (by omega) (fun j a b => by omega) σ1 hf1 h6 h2 h4 (fun t a b => hd t a (by omega))
    | succ m ih =>
      intro i i0 i1 σ1 hf1 h6 h2 h4 hd
      refine V_run kX7_readsWindows 10 [0] (show (zr i ∧ zr 24 ∧ i < 24) ∧ (0 ≤ i ∧ i < 24) ∧ V 1 MX7_readsWindows 7 [some (vR 6 44), some (vZ (i + 1))] [] (uI σ1 50 i 1) post from ⟨(by omega), (by omega), ?_⟩)
      refine ih (i + 1) (by omega) (by omega) _ (rFr.u hf1 (by decide) (by decide)) (by rw [uI_ne (by decide)]; exact h6) (by rw [uI_ne (by decide)]; exact h2) (fun a b c => by rw [uI_ne (by omega)]; exact h4 a b c) (fun t a b => ?_)
      rw [uI_at]
      by_cases ht : t = i
      · rw [if_pos ht]
      · rw [if_neg ht]; exact hd t a (by omega)
  show V 1 MX7_readsWindows 0 [some (vR 6 44), none] [] σ post
  refine V_run kX7_readsWindows 5 [] (show V 1 MX7_readsWindows 7 [some (vR 6 44), some (vZ 0)] [] (uI σ 44 6 0) post from ?_)
  exact loop1 24 0 (by omega) (by omega) _ (rFr.s rFr.rf (Or.inr rfl)) uI_get (by rw [uI_at, if_neg (by decide)]) (fun a b c => by rw [uI_ne (by omega)]) (fun t a b => by omega)
def zTd (σ : zSt) : Prop := zTdP σ ∧ zTdW σ
set_option maxHeartbeats 4000000 in
set_option maxRecDepth 100000 in
/-- faultOf -/
theorem c_M_faultOf {x : Int} {σ : zSt} {post : Option VV → zSt → Prop} (hT : zTm σ) (hx : zr x) (hp : ∀ σ', rFr σ σ' → zTd σ' → post (some (vZ (if x = 0 then zflt 1 (σ.1 46) (σ.1 45 0) else zflt 0 (zGt σ) (σ.1 45 1)))) σ') : Mc 4 MX7_faultOf [vR 6 44, vZ x] σ post := by
  show V 4 MX7_faultOf 0 [some (vR 6 44), some (vZ x), none, none] [] σ post
  refine V_run kX7_faultOf 1 [] (show V 4 MX7_faultOf 1 [some (vR 6 44), some (vZ x), none, none] [vR 6 44] σ post from ?_)
  refine V_callV (a := []) (rest := []) kX7_faultOf rfl oX7_readsPeople iX7_readsPeople lk_7_133 rfl rfl rfl (Nat.le_of_ble_eq_true rfl) (Nat.le_of_ble_eq_true rfl) (Nat.le_of_ble_eq_true rfl) (post' := fun zv zσ => V 4 MX7_faultOf 4 [some (vR 6 44), some (vZ x), none, none] (zv.toList ++ []) zσ post) (c_M_readsPeople hT (fun σ1 hf1 hd1 => (show V 4 MX7_faultOf 4 [some (vR 6 44), some (vZ x), none, none] [vZ (zflt 1 (σ.1 46) (σ.1 45 0))] σ1 post from ?_))) (fun _ _ h => h)
  have hT1 := zTm_r hf1 hT
  refine V_run kX7_faultOf 2 [] (show V 4 MX7_faultOf 6 [some (vR 6 44), some (vZ x), some (vZ (zflt 1 (σ.1 46) (σ.1 45 0))), none] [vR 6 44] σ1 post from ?_)
  refine V_callV (a := []) (rest := []) kX7_faultOf rfl oX7_readsWindows iX7_readsWindows lk_7_137 rfl rfl rfl (Nat.le_of_ble_eq_true rfl) (Nat.le_of_ble_eq_true rfl) (Nat.le_of_ble_eq_true rfl) (post' := fun zv zσ => V 4 MX7_faultOf 9 [some (vR 6 44), some (vZ x), some (vZ (zflt 1 (σ.1 46) (σ.1 45 0))), none] (zv.toList ++ []) zσ post) (c_M_readsWindows hT1 (fun σ2 hf2 hd2 h2 h4 => (show V 4 MX7_faultOf 9 [some (vR 6 44), some (vZ x), some (vZ (zflt 1 (σ.1 46) (σ.1 45 0))), none] [vZ (zflt 0 (zGt σ1) (σ1.1 45 1))] σ2 post from ?_))) (fun _ _ h => h)
  have hf := hf1.tr hf2
  have hd : zTd σ2 := ⟨by unfold zTdP at hd1 ⊢; rw [h2, hf2.t.1, hf2.t.2, h4 47 (by omega) (by omega), h4 48 (by omega) (by omega), h4 49 (by omega) (by omega)]; exact hd1, hd2⟩
  refine V_run kX7_faultOf 2 [] (show V 4 MX7_faultOf 11 [some (vR 6 44), some (vZ x), some (vZ (zflt 1 (σ.1 46) (σ.1 45 0))), some (vZ (zflt 0 (zGt σ1) (σ1.1 45 1)))] [vZ x] σ2 post from ?_)
  by_cases h0 : x = 0
  · skip
    rw [if_pos h0] at hp
    refine V_run kX7_faultOf 3 [0] (show (zr x ∧ x = 0) ∧ V 4 MX7_faultOf 19 [some (vR 6 44), some (vZ x), some (vZ (zflt 1 (σ.1 46) (σ.1 45 0))), some (vZ (zflt 0 (zGt σ1) (σ1.1 45 1)))] [vZ (zflt 1 (σ.1 46) (σ.1 45 0))] σ2 post from ⟨(by omega), ?_⟩)
    exact V_iret kX7_faultOf rfl rfl (hp σ2 hf hd)
  · skip
    rw [if_neg h0] at hp
    have hp := hp σ2 hf hd
    unfold zGt at hp ⊢
    rw [← hf1.t.2, ← hf1.t.1] at hp
    refine V_run kX7_faultOf 2 [1] (show (zr x ∧ ¬ x = 0) ∧ V 4 MX7_faultOf 19 [some (vR 6 44), some (vZ x), some (vZ (zflt 1 (σ.1 46) (σ.1 45 0))), some (vZ (zflt 0 (zGt σ1) (σ1.1 45 1)))] [vZ (zflt 0 (zGt σ1) (σ1.1 45 1))] σ2 post from ⟨(by omega), ?_⟩)
    exact V_iret kX7_faultOf rfl rfl (hp)
set_option maxHeartbeats 4000000 in
set_option maxRecDepth 100000 in
/-- reads -/
theorem c_M_reads {σ : zSt} {post : Option VV → zSt → Prop} (hT : zTm σ) (hp : ∀ σ', rFr σ σ' → zTd σ' → post none σ') : Mc 5 MX7_reads [vR 6 44] σ post := by
  show V 5 MX7_reads 0 [some (vR 6 44), none] [] σ post
  refine V_run kX7_reads 2 [] (show V 5 MX7_reads 2 [some (vR 6 44), none] [vZ 0, vR 6 44] σ post from ?_)
  refine V_callV (a := [vZ 0]) (rest := []) kX7_reads rfl oX7_faultOf iX7_faultOf lk_7_140 rfl rfl rfl (Nat.le_of_ble_eq_true rfl) (Nat.le_of_ble_eq_true rfl) (Nat.le_of_ble_eq_true rfl) (post' := fun zv zσ => V 5 MX7_reads 5 [some (vR 6 44), none] (zv.toList ++ []) zσ post) (c_M_faultOf hT (by decide) (fun σ1 hf1 hd1 => (show V 5 MX7_reads 5 [some (vR 6 44), none] [vZ (if (0 : Int) = 0 then zflt 1 (σ.1 46) (σ.1 45 0) else zflt 0 (zGt σ) (σ.1 45 1))] σ1 post from ?_))) (fun _ _ h => h)
  refine V_run kX7_reads 1 [] (show V 5 MX7_reads 6 [some (vR 6 44), some (vZ (if (0 : Int) = 0 then zflt 1 (σ.1 46) (σ.1 45 0) else zflt 0 (zGt σ) (σ.1 45 1)))] [] σ1 post from ?_)
  exact V_vret kX7_reads rfl rfl (hp σ1 hf1 hd1)
