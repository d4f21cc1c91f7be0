theorem zush16 (a : Int) : 0 ≤ zushr a 16 ∧ zushr a 16 < 65536 := by
  obtain ⟨n, hn, e⟩ := wb_of32 (Int32.ofInt a)
  unfold zushr
  rw [e, pk_ushrN hn (Int32.ofInt 16) 16 (by decide)]
  have h : n / 2 ^ 16 < 65536 := by omega
  rw [nI_toInt (by omega)]
  omega
def zSee (s : Int) : Nat → Int
  | 0 => s
  | n + 1 => 1103515245 * zSee s n + 12345
def cDec (C : zCf) (s n : Int) : zCf := (cn C, if cn C = 0 then 0 else n, cCm C, cSo C, cPa C, cWi C, fun e => zushr (zSee s (3 * e.toNat + 1)) 16 % 3, fun e => zushr (zSee s (3 * e.toNat + 2)) 16 % 24, fun e => zushr (zSee s (3 * e.toNat + 3)) 16 % cn C, cOn C)
theorem cDec_v {C : zCf} {s n : Int} (h : zCv C) (h0 : 0 ≤ n) (h1 : n ≤ 9) : zCv (cDec C s n) := by
  obtain ⟨q1, q2, q3, q4, q5⟩ := h
  refine ⟨q1, ?_, q3, q4, fun e a b => ?_⟩
  · show 0 ≤ (if cn C = 0 then 0 else n) ∧ (if cn C = 0 then 0 else n) ≤ 9
    split <;> omega
  · have b : e < (if cn C = 0 then 0 else n) := b
    have hc : ¬ cn C = 0 := fun z => by rw [if_pos z] at b; omega
    show (0 ≤ zushr (zSee s (3 * e.toNat + 1)) 16 % 3 ∧ zushr (zSee s (3 * e.toNat + 1)) 16 % 3 ≤ 2) ∧ (0 ≤ zushr (zSee s (3 * e.toNat + 2)) 16 % 24 ∧ zushr (zSee s (3 * e.toNat + 2)) 16 % 24 ≤ 23) ∧ 0 ≤ zushr (zSee s (3 * e.toNat + 3)) 16 % cn C ∧ zushr (zSee s (3 * e.toNat + 3)) 16 % cn C ≤ 11
    have w1 := Int.emod_nonneg (zushr (zSee s (3 * e.toNat + 3)) 16) hc
    have w2 := Int.emod_lt_of_pos (zushr (zSee s (3 * e.toNat + 3)) 16) (show 0 < cn C by omega)
    omega
def aDec (S : zAb) (s n x : Int) : Int := if (0 ≤ n ∧ n ≤ 8) ∧ 0 ≤ x ∧ x ≤ 1 then (if x = 0 then zSvc (cDec (aC S) s n) (cn (aC S)).toNat 0 0 else dn (zD (cDec (aC S) s n) 23)) else -2
set_option maxHeartbeats 8000000 in
set_option maxRecDepth 100000 in
/-- decadesOf -/
theorem c_M_decadesOf {s n x : Int} {S : zAb} {σ : zSt} {post : Option VV → zSt → Prop} (hR : RM σ S) (ho : aOk S) (n0 : 0 ≤ n) (n1 : n ≤ 8) (hx : zr x) (hp : ∀ σ', mKeep σ σ' → post (some (vZ (if x = 0 then zSvc (cDec (aC S) s n) (cn (aC S)).toNat 0 0 else dn (zD (cDec (aC S) s n) 23)))) σ') : Mc 7 MX7_decadesOf [vR 6 44, vZ s, vZ n, vZ x] σ post := by
  have hok := aC_ok ho
  have hcn := hok.1
  obtain ⟨N, hN⟩ : ∃ N : Int, N = if cn (aC S) = 0 then 0 else n := ⟨_, rfl⟩
  have hN9 : 0 ≤ N ∧ N ≤ 9 := by rw [hN]; split <;> omega
  have hNc : 0 < N → 0 < cn (aC S) := fun q => by
    by_cases z : cn (aC S) = 0
    · rw [hN, if_pos z] at q; omega
    · omega
  show V 7 MX7_decadesOf 0 [some (vR 6 44), some (vZ s), some (vZ n), some (vZ x), none, none] [] σ post
  refine V_run kX7_decadesOf 1 [] (show V 7 MX7_decadesOf 1 [some (vR 6 44), some (vZ s), some (vZ n), some (vZ x), none, none] [vR 6 44] σ post from ?_)
  refine V_callV (a := []) (rest := []) kX7_decadesOf rfl oX7_asTold iX7_asTold lk_7_213 rfl rfl rfl (Nat.le_of_ble_eq_true rfl) (Nat.le_of_ble_eq_true rfl) (Nat.le_of_ble_eq_true rfl) (post' := fun zv zσ => V 7 MX7_decadesOf 4 [some (vR 6 44), some (vZ s), some (vZ n), some (vZ x), none, none] (zv.toList ++ []) zσ post) (c_M_asTold2 hR ho (fun σ1 hk1 hc1 hn1 hz1 => (show V 7 MX7_decadesOf 4 [some (vR 6 44), some (vZ s), some (vZ n), some (vZ x), none, none] [] σ1 post from ?_))) (fun _ _ h => h)
  have loop : ∀ (m k : Nat), (k : Int) + m = N → ∀ σ2 : zSt, mKeep σ σ2 → (∀ a : Nat, 47 ≤ a → a ≤ 50 → σ2.1 a = σ1.1 a) → (∀ j : Int, j ≠ 12 → σ2.1 44 j = σ1.1 44 j) → σ2.1 44 12 = N → (∀ e : Int, 0 ≤ e → e < (k : Int) → σ2.1 54 e = zushr (zSee s (3 * e.toNat + 1)) 16 % 3 ∧ σ2.1 55 e = zushr (zSee s (3 * e.toNat + 2)) 16 % 24 ∧ σ2.1 56 e = zushr (zSee s (3 * e.toNat + 3)) 16 % cn (aC S)) → V 7 MX7_decadesOf 26 [some (vR 6 44), some (vZ s), some (vZ n), some (vZ x), some (vZ (zSee s (3 * k))), some (vZ (k : Int))] [] σ2 post := by
    intro m
    induction m with
    | zero =>
      intro k hkm σ2 hk hr hf h12 hd
      have hc3 : zMc σ2 (cDec (aC S) s n) := by
        obtain ⟨h1, h2, h3, h4, h5, h6, h7⟩ := hc1
        refine ⟨by rw [hf 2 (by decide)]; exact h1, by rw [h12]; exact hN, fun j a b => by rw [hr 47 (by omega) (by omega), hr 48 (by omega) (by omega), hr 49 (by omega) (by omega)]; exact h3 j a b, fun j a b => by rw [hf 17 (by decide), hf 18 (by decide), hr 50 (by omega) (by omega)]; exact h4 j a b, fun e a b => ?_, by rw [hf 17 (by decide), hf 18 (by decide)]; exact h6, cDec_v h7 n0 (by omega)⟩
        have b : e < (if cn (aC S) = 0 then 0 else n) := b
        have q := hd e a (by omega)
        exact ⟨q.1, q.2.1, q.2.2, by rw [hf 16 (by decide), hz1.1, zbt_0]; rfl⟩
      have hv3 := zMc_C hc3
      refine V_run kX7_decadesOf 3 [] (show V 7 MX7_decadesOf 32 [some (vR 6 44), some (vZ s), some (vZ n), some (vZ x), some (vZ (zSee s (3 * k))), some (vZ (k : Int))] [vZ (σ2.1 44 12), vZ (k : Int)] σ2 post from ?_)
      refine V_top (h12) ?_
      refine V_run kX7_decadesOf 2 [1] (show (zr (k : Int) ∧ zr N ∧ N ≤ (k : Int)) ∧ V 7 MX7_decadesOf 124 [some (vR 6 44), some (vZ s), some (vZ n), some (vZ x), some (vZ (zSee s (3 * k))), some (vZ (k : Int))] [vR 6 44] σ2 post from ⟨(by omega), ?_⟩)
      refine V_callV (a := []) (rest := []) kX7_decadesOf rfl oX7_runs iX7_runs lk_7_216 rfl rfl rfl (Nat.le_of_ble_eq_true rfl) (Nat.le_of_ble_eq_true rfl) (Nat.le_of_ble_eq_true rfl) (post' := fun zv zσ => V 7 MX7_decadesOf 127 [some (vR 6 44), some (vZ s), some (vZ n), some (vZ x), some (vZ (zSee s (3 * k))), some (vZ (k : Int))] (zv.toList ++ []) zσ post) (c_M_runs hc3 (fun σ4 hf4 hm4 hr4 => (show V 7 MX7_decadesOf 127 [some (vR 6 44), some (vZ s), some (vZ n), some (vZ x), some (vZ (zSee s (3 * k))), some (vZ (k : Int))] [] σ4 post from ?_))) (fun _ _ h => h)
      have hp := hp σ4 (hk.tr hf4.k)
      by_cases h2 : x = 0
      · skip
        rw [if_pos h2] at hp
        refine V_run kX7_decadesOf 1 [] (show V 7 MX7_decadesOf 128 [some (vR 6 44), some (vZ s), some (vZ n), some (vZ x), some (vZ (zSee s (3 * k))), some (vZ (k : Int))] [vZ x] σ4 post from ?_)
        refine V_run kX7_decadesOf 2 [0] (show (zr x ∧ x = 0) ∧ V 7 MX7_decadesOf 132 [some (vR 6 44), some (vZ s), some (vZ n), some (vZ x), some (vZ (zSee s (3 * k))), some (vZ (k : Int))] [vR 6 44] σ4 post from ⟨(by omega), ?_⟩)
        refine V_callV (a := []) (rest := []) kX7_decadesOf rfl oX7_servedNow iX7_servedNow lk_7_258 rfl rfl rfl (Nat.le_of_ble_eq_true rfl) (Nat.le_of_ble_eq_true rfl) (Nat.le_of_ble_eq_true rfl) (post' := fun zv zσ => V 7 MX7_decadesOf 135 [some (vR 6 44), some (vZ s), some (vZ n), some (vZ x), some (vZ (zSee s (3 * k))), some (vZ (k : Int))] (zv.toList ++ []) zσ post) (c_M_servedNow hv3 (zMc_nf hf4 hc3).1 hm4 ((show V 7 MX7_decadesOf 135 [some (vR 6 44), some (vZ s), some (vZ n), some (vZ x), some (vZ (zSee s (3 * k))), some (vZ (k : Int))] [vZ (zSvc (cDec (aC S) s n) (cn (cDec (aC S) s n)).toNat 0 0)] σ4 post from ?_))) (fun _ _ h => h)
        refine V_run kX7_decadesOf 1 [] (show V 7 MX7_decadesOf 142 [some (vR 6 44), some (vZ s), some (vZ n), some (vZ x), some (vZ (zSee s (3 * k))), some (vZ (k : Int))] [vZ (zSvc (cDec (aC S) s n) (cn (cDec (aC S) s n)).toNat 0 0)] σ4 post from ?_)
        exact V_iret kX7_decadesOf rfl rfl (hp)
      · skip
        rw [if_neg h2] at hp
        refine V_run kX7_decadesOf 4 [1] (show (zr x ∧ ¬ x = 0) ∧ V 7 MX7_decadesOf 142 [some (vR 6 44), some (vZ s), some (vZ n), some (vZ x), some (vZ (zSee s (3 * k))), some (vZ (k : Int))] [vZ (σ4.1 44 19)] σ4 post from ⟨(by omega), ?_⟩)
        refine V_top (hm4.1) ?_
        exact V_iret kX7_decadesOf rfl rfl (hp)
    | succ m ih =>
      intro k hkm σ2 hk hr hf h12 hd
      have hc0 := hNc (by omega)
      have e1 : 1103515245 * zSee s (3 * k) + 12345 = zSee s (3 * k + 1) := rfl
      have e2 : 1103515245 * zSee s (3 * k + 1) + 12345 = zSee s (3 * k + 2) := rfl
      have e3 : 1103515245 * zSee s (3 * k + 2) + 12345 = zSee s (3 * k + 3) := rfl
      have u1 := zush16 (zSee s (3 * k + 1))
      have u2 := zush16 (zSee s (3 * k + 2))
      have u3 := zush16 (zSee s (3 * k + 3))
      refine V_run kX7_decadesOf 3 [] (show V 7 MX7_decadesOf 32 [some (vR 6 44), some (vZ s), some (vZ n), some (vZ x), some (vZ (zSee s (3 * k))), some (vZ (k : Int))] [vZ (σ2.1 44 12), vZ (k : Int)] σ2 post from ?_)
      refine V_top (h12) ?_
      refine V_run kX7_decadesOf 7 [0] (show (zr (k : Int) ∧ zr N ∧ (k : Int) < N) ∧ V 7 MX7_decadesOf 47 [some (vR 6 44), some (vZ s), some (vZ n), some (vZ x), some (vZ ((1103515245 * (zSee s (3 * k))) + 12345)), some (vZ (k : Int))] [] σ2 post from ⟨(by omega), ?_⟩)
      show V 7 MX7_decadesOf 47 [some (vR 6 44), some (vZ s), some (vZ n), some (vZ x), some (vZ (zSee s (3 * k + 1))), some (vZ (k : Int))] [] σ2 post
      refine V_run kX7_decadesOf 15 [] (show (0 ≤ (zushr (zSee s (3 * k + 1)) 16) ∧ (zushr (zSee s (3 * k + 1)) 16) < 2147483648 ∧ 0 < 3 ∧ 3 < 2147483648) ∧ (0 ≤ (k : Int) ∧ (k : Int) < 9) ∧ V 7 MX7_decadesOf 73 [some (vR 6 44), some (vZ s), some (vZ n), some (vZ x), some (vZ ((1103515245 * (zSee s (3 * k + 1))) + 12345)), some (vZ (k : Int))] [] (uI σ2 54 (k : Int) ((zushr (zSee s (3 * k + 1)) 16) % 3)) post from ⟨(by omega), (by omega), ?_⟩)
      show V 7 MX7_decadesOf 73 [some (vR 6 44), some (vZ s), some (vZ n), some (vZ x), some (vZ (zSee s (3 * k + 2))), some (vZ (k : Int))] [] (uI σ2 54 (k : Int) ((zushr (zSee s (3 * k + 1)) 16) % 3)) post
      refine V_run kX7_decadesOf 15 [] (show (0 ≤ (zushr (zSee s (3 * k + 2)) 16) ∧ (zushr (zSee s (3 * k + 2)) 16) < 2147483648 ∧ 0 < 24 ∧ 24 < 2147483648) ∧ (0 ≤ (k : Int) ∧ (k : Int) < 9) ∧ V 7 MX7_decadesOf 100 [some (vR 6 44), some (vZ s), some (vZ n), some (vZ x), some (vZ ((1103515245 * (zSee s (3 * k + 2))) + 12345)), some (vZ (k : Int))] [] (uI (uI σ2 54 (k : Int) ((zushr (zSee s (3 * k + 1)) 16) % 3)) 55 (k : Int) ((zushr (zSee s (3 * k + 2)) 16) % 24)) post from ⟨(by omega), (by omega), ?_⟩)
      show V 7 MX7_decadesOf 100 [some (vR 6 44), some (vZ s), some (vZ n), some (vZ x), some (vZ (zSee s (3 * k + 3))), some (vZ (k : Int))] [] (uI (uI σ2 54 (k : Int) ((zushr (zSee s (3 * k + 1)) 16) % 3)) 55 (k : Int) ((zushr (zSee s (3 * k + 2)) 16) % 24)) post
      refine V_run kX7_decadesOf 8 [] (show V 7 MX7_decadesOf 115 [some (vR 6 44), some (vZ s), some (vZ n), some (vZ x), some (vZ (zSee s (3 * k + 3))), some (vZ (k : Int))] [vZ ((uI (uI σ2 54 (k : Int) ((zushr (zSee s (3 * k + 1)) 16) % 3)) 55 (k : Int) ((zushr (zSee s (3 * k + 2)) 16) % 24)).1 44 2), vZ (zushr (zSee s (3 * k + 3)) 16), vZ (k : Int), vR 8 56] (uI (uI σ2 54 (k : Int) ((zushr (zSee s (3 * k + 1)) 16) % 3)) 55 (k : Int) ((zushr (zSee s (3 * k + 2)) 16) % 24)) post from ?_)
      refine V_top (show (uI (uI σ2 54 (k : Int) ((zushr (zSee s (3 * k + 1)) 16) % 3)) 55 (k : Int) ((zushr (zSee s (3 * k + 2)) 16) % 24)).1 44 2 = cn (aC S) from (hf 2 (by decide)).trans hc1.1) ?_
      refine V_run kX7_decadesOf 4 [] (show (0 ≤ (zushr (zSee s (3 * k + 3)) 16) ∧ (zushr (zSee s (3 * k + 3)) 16) < 2147483648 ∧ 0 < (cn (aC S)) ∧ (cn (aC S)) < 2147483648) ∧ (0 ≤ (k : Int) ∧ (k : Int) < 9) ∧ V 7 MX7_decadesOf 26 [some (vR 6 44), some (vZ s), some (vZ n), some (vZ x), some (vZ (zSee s (3 * k + 3))), some (vZ ((k : Int) + 1))] [] (uI (uI (uI σ2 54 (k : Int) ((zushr (zSee s (3 * k + 1)) 16) % 3)) 55 (k : Int) ((zushr (zSee s (3 * k + 2)) 16) % 24)) 56 (k : Int) ((zushr (zSee s (3 * k + 3)) 16) % (cn (aC S)))) post from ⟨(by omega), (by omega), ?_⟩)
      refine ih (k + 1) (by omega) _ (((hk.u (by decide)).u (by decide)).u (by decide)) (fun a x y => by rw [uI_ne (by omega), uI_ne (by omega), uI_ne (by omega)]; exact hr a x y) hf h12 (fun e a b => ?_)
      rw [uI_ne (by decide), uI_ne (by decide), uI_at, uI_ne (by decide), uI_at, uI_ne (by decide), uI_at, uI_ne (by decide), uI_ne (by decide)]
      by_cases he : e = (k : Int)
      · rw [if_pos he, if_pos he, if_pos he, he, Int.toNat_natCast]; exact ⟨rfl, rfl, rfl⟩
      · rw [if_neg he, if_neg he, if_neg he]; exact hd e a (by omega)
  refine V_run kX7_decadesOf 5 [] (show V 7 MX7_decadesOf 12 [some (vR 6 44), some (vZ s), some (vZ n), some (vZ x), some (vZ s), none] [vZ (σ1.1 44 2), vR 6 44] σ1 post from ?_)
  refine V_top (hc1.1) ?_
  by_cases h3 : cn (aC S) = 0
  · skip
    refine V_run kX7_decadesOf 6 [0] (show (zr (cn (aC S)) ∧ (cn (aC S)) = 0) ∧ V 7 MX7_decadesOf 26 [some (vR 6 44), some (vZ s), some (vZ n), some (vZ x), some (vZ s), some (vZ 0)] [] (uI σ1 44 12 0) post from ⟨(by omega), ?_⟩)
    have hN2 : N = 0 := by rw [hN, if_pos h3]
    exact loop N.toNat 0 (by omega) _ (hk1.s (by decide)) (fun a x y => by rw [uI_ne (by omega)]) (fun j q => by rw [uI_at, if_neg q]) (by rw [uI_get, hN2]) (fun e a b => absurd b (by omega))
  · skip
    refine V_run kX7_decadesOf 5 [1] (show (zr (cn (aC S)) ∧ ¬ (cn (aC S)) = 0) ∧ V 7 MX7_decadesOf 26 [some (vR 6 44), some (vZ s), some (vZ n), some (vZ x), some (vZ s), some (vZ 0)] [] (uI σ1 44 12 n) post from ⟨(by omega), ?_⟩)
    have hN2 : N = n := by rw [hN, if_neg h3]
    exact loop N.toNat 0 (by omega) _ (hk1.s (by decide)) (fun a x y => by rw [uI_ne (by omega)]) (fun j q => by rw [uI_at, if_neg q]) (by rw [uI_get, hN2]) (fun e a b => absurd b (by omega))
set_option maxHeartbeats 4000000 in
set_option maxRecDepth 100000 in
/-- decades -/
theorem c_M_decades {s n x : Int} {S : zAb} {σ : zSt} {post : Option VV → zSt → Prop} (hR : RM σ S) (ho : aOk S) (hn : zr n) (hx : zr x) (hp : ∀ σ', mKeep σ σ' → post (some (vZ (aDec S s n x))) σ') : Mc 8 MX7_decades [vR 6 44, vZ s, vZ n, vZ x] σ post := by
  unfold aDec at hp
  show V 8 MX7_decades 0 [some (vR 6 44), some (vZ s), some (vZ n), some (vZ x)] [] σ post
  refine V_run kX7_decades 3 [] (show V 8 MX7_decades 4 [some (vR 6 44), some (vZ s), some (vZ n), some (vZ x)] [vZ 8, vZ 0, vZ n] σ post from ?_)
  refine V_callS (a := [vZ n, vZ 0, vZ 8]) (rest := []) kX7_decades rfl oX7_in iX7_in lk_7_104 rfl rfl (Nat.le_of_ble_eq_true rfl) (Nat.le_of_ble_eq_true rfl) (Nat.le_of_ble_eq_true rfl) (post' := fun zv zσ => V 8 MX7_decades 7 [some (vR 6 44), some (vZ s), some (vZ n), some (vZ x)] (zv.toList ++ []) zσ post) (c_M_in (by omega) (by omega) (by omega) ((show V 8 MX7_decades 7 [some (vR 6 44), some (vZ s), some (vZ n), some (vZ x)] [vZ (if 0 ≤ n ∧ n ≤ 8 then 1 else 0)] σ post from ?_))) (fun _ _ h => h)
  by_cases h1 : 0 ≤ n ∧ n ≤ 8
  rotate_left
  · skip
    rw [if_neg (fun q => h1 q.1)] at hp
    refine V_top (if_neg h1) ?_
    refine V_run kX7_decades 2 [1] (show (zr 0 ∧ 0 = 0) ∧ V 8 MX7_decades 29 [some (vR 6 44), some (vZ s), some (vZ n), some (vZ x)] [vZ (-2)] σ post from ⟨(by omega), ?_⟩)
    exact V_iret kX7_decades rfl rfl (hp σ mKeep.rf)
  refine V_top (if_pos h1) ?_
  refine V_run kX7_decades 2 [0] (show (zr 1 ∧ ¬ 1 = 0) ∧ V 8 MX7_decades 11 [some (vR 6 44), some (vZ s), some (vZ n), some (vZ x)] [vZ x] σ post from ⟨(by omega), ?_⟩)
  refine V_callS (a := [vZ x]) (rest := []) kX7_decades rfl oX7_isTwo iX7_isTwo lk_7_246 rfl rfl (Nat.le_of_ble_eq_true rfl) (Nat.le_of_ble_eq_true rfl) (Nat.le_of_ble_eq_true rfl) (post' := fun zv zσ => V 8 MX7_decades 14 [some (vR 6 44), some (vZ s), some (vZ n), some (vZ x)] (zv.toList ++ []) zσ post) (c_M_isTwo (by omega) ((show V 8 MX7_decades 14 [some (vR 6 44), some (vZ s), some (vZ n), some (vZ x)] [vZ (if 0 ≤ x ∧ x ≤ 1 then 1 else 0)] σ post from ?_))) (fun _ _ h => h)
  by_cases h2 : 0 ≤ x ∧ x ≤ 1
  rotate_left
  · skip
    rw [if_neg (fun q => h2 q.2)] at hp
    refine V_top (if_neg h2) ?_
    refine V_run kX7_decades 2 [1] (show (zr 0 ∧ 0 = 0) ∧ V 8 MX7_decades 29 [some (vR 6 44), some (vZ s), some (vZ n), some (vZ x)] [vZ (-2)] σ post from ⟨(by omega), ?_⟩)
    exact V_iret kX7_decades rfl rfl (hp σ mKeep.rf)
  rw [if_pos ⟨h1, h2⟩] at hp
  refine V_top (if_pos h2) ?_
  refine V_run kX7_decades 5 [0] (show (zr 1 ∧ ¬ 1 = 0) ∧ V 8 MX7_decades 21 [some (vR 6 44), some (vZ s), some (vZ n), some (vZ x)] [vZ x, vZ n, vZ s, vR 6 44] σ post from ⟨(by omega), ?_⟩)
  refine V_callV (a := [vZ s, vZ n, vZ x]) (rest := []) kX7_decades rfl oX7_decadesOf iX7_decadesOf lk_7_313 rfl rfl rfl (Nat.le_of_ble_eq_true rfl) (Nat.le_of_ble_eq_true rfl) (Nat.le_of_ble_eq_true rfl) (post' := fun zv zσ => V 8 MX7_decades 24 [some (vR 6 44), some (vZ s), some (vZ n), some (vZ x)] (zv.toList ++ []) zσ post) (c_M_decadesOf hR ho h1.1 h1.2 (by omega) (fun σ9 hk9 => (show V 8 MX7_decades 24 [some (vR 6 44), some (vZ s), some (vZ n), some (vZ x)] [vZ (if x = 0 then zSvc (cDec (aC S) s n) (cn (aC S)).toNat 0 0 else dn (zD (cDec (aC S) s n) 23))] σ9 post from ?_))) (fun _ _ h => h)
  refine V_run kX7_decades 1 [] (show V 8 MX7_decades 29 [some (vR 6 44), some (vZ s), some (vZ n), some (vZ x)] [vZ (if x = 0 then zSvc (cDec (aC S) s n) (cn (aC S)).toNat 0 0 else dn (zD (cDec (aC S) s n) 23))] σ9 post from ?_)
  exact V_iret kX7_decades rfl rfl (hp σ9 hk9)
