set_option maxHeartbeats 4000000 in
set_option maxRecDepth 100000 in
/-- Plan.people -/
theorem c_P_people {b : Nat} {σ : zSt} {post : Option VV → zSt → Prop}  (hp : post (some (vZ (σ.1 b 0))) σ) : Mc 0 MX2_people [vR 1 b] σ post := by
  show V 0 MX2_people 0 [some (vR 1 b)] [] σ post
  refine V_run kX2_people 2 [] (show V 0 MX2_people 4 [some (vR 1 b)] [vZ (σ.1 b 0)] σ post from ?_)
  exact V_iret kX2_people rfl rfl (hp)
set_option maxHeartbeats 4000000 in
set_option maxRecDepth 100000 in
/-- Plan.events -/
theorem c_P_events {b : Nat} {σ : zSt} {post : Option VV → zSt → Prop}  (hp : post (some (vZ (σ.1 b 5))) σ) : Mc 0 MX2_events [vR 1 b] σ post := by
  show V 0 MX2_events 0 [some (vR 1 b)] [] σ post
  refine V_run kX2_events 2 [] (show V 0 MX2_events 4 [some (vR 1 b)] [vZ (σ.1 b 5)] σ post from ?_)
  exact V_iret kX2_events rfl rfl (hp)
set_option maxHeartbeats 4000000 in
set_option maxRecDepth 100000 in
/-- Plan.parcels -/
theorem c_P_parcels {b : Nat} {σ : zSt} {post : Option VV → zSt → Prop}  (hp : post (some (vL (σ.2 b 3))) σ) : Mc 0 MX2_parcels [vR 1 b] σ post := by
  show V 0 MX2_parcels 0 [some (vR 1 b)] [] σ post
  refine V_run kX2_parcels 2 [] (show V 0 MX2_parcels 4 [some (vR 1 b)] [vL (σ.2 b 3)] σ post from ?_)
  exact V_lret kX2_parcels rfl rfl (hp)
set_option maxHeartbeats 4000000 in
set_option maxRecDepth 100000 in
/-- Plan.comingOf -/
theorem c_P_comingOf {b : Nat} {p : Int} {σ : zSt} {post : Option VV → zSt → Prop} (hz : zPz b) (h0 : 0 ≤ p) (h : p < 12) (hp : post (some (vZ (σ.1 (b + 1) p))) σ) : Mc 0 MX2_comingOf [vR 1 b, vZ p] σ post := by
  obtain ⟨z1, z2, z3, z4, z5, z6, z7, z8⟩ := hz
  show V 0 MX2_comingOf 0 [some (vR 1 b), some (vZ p)] [] σ post
  refine V_run kX2_comingOf 12 [0, 0] (show (zr p ∧ 0 ≤ p) ∧ (zr p ∧ zr (zlen (b + 1)) ∧ p < (zlen (b + 1))) ∧ (0 ≤ p ∧ p < (zlen (b + 1))) ∧ V 0 MX2_comingOf 23 [some (vR 1 b), some (vZ p)] [vZ (σ.1 (b + 1) p)] σ post from ⟨(by omega), (by omega), (by omega), ?_⟩)
  exact V_iret kX2_comingOf rfl rfl (hp)
set_option maxHeartbeats 4000000 in
set_option maxRecDepth 100000 in
/-- Plan.sortOf -/
theorem c_P_sortOf {b : Nat} {p : Int} {σ : zSt} {post : Option VV → zSt → Prop} (hz : zPz b) (h0 : 0 ≤ p) (h : p < 12) (hp : post (some (vZ (σ.1 (b + 2) p))) σ) : Mc 0 MX2_sortOf [vR 1 b, vZ p] σ post := by
  obtain ⟨z1, z2, z3, z4, z5, z6, z7, z8⟩ := hz
  show V 0 MX2_sortOf 0 [some (vR 1 b), some (vZ p)] [] σ post
  refine V_run kX2_sortOf 12 [0, 0] (show (zr p ∧ 0 ≤ p) ∧ (zr p ∧ zr (zlen (b + 2)) ∧ p < (zlen (b + 2))) ∧ (0 ≤ p ∧ p < (zlen (b + 2))) ∧ V 0 MX2_sortOf 23 [some (vR 1 b), some (vZ p)] [vZ (σ.1 (b + 2) p)] σ post from ⟨(by omega), (by omega), (by omega), ?_⟩)
  exact V_iret kX2_sortOf rfl rfl (hp)
set_option maxHeartbeats 4000000 in
set_option maxRecDepth 100000 in
/-- Plan.openIn -/
theorem c_P_openIn {b : Nat} {t : Int} {σ : zSt} {post : Option VV → zSt → Prop} (hz : zPz b) (h0 : 0 ≤ t) (h : t < 24) (hp : post (some (vZ (σ.1 (b + 3) t))) σ) : Mc 0 MX2_openIn [vR 1 b, vZ t] σ post := by
  obtain ⟨z1, z2, z3, z4, z5, z6, z7, z8⟩ := hz
  show V 0 MX2_openIn 0 [some (vR 1 b), some (vZ t)] [] σ post
  refine V_run kX2_openIn 12 [0, 0] (show (zr t ∧ 0 ≤ t) ∧ (zr t ∧ zr (zlen (b + 3)) ∧ t < (zlen (b + 3))) ∧ (0 ≤ t ∧ t < (zlen (b + 3))) ∧ V 0 MX2_openIn 23 [some (vR 1 b), some (vZ t)] [vZ (σ.1 (b + 3) t)] σ post from ⟨(by omega), (by omega), (by omega), ?_⟩)
  exact V_iret kX2_openIn rfl rfl (hp)
set_option maxHeartbeats 4000000 in
set_option maxRecDepth 100000 in
/-- Plan.comersIn -/
theorem c_P_comersIn {b : Nat} {t : Int} {σ : zSt} {post : Option VV → zSt → Prop} (hz : zPz b) (h0 : 0 ≤ t) (h : t < 24) (hp : post (some (vZ (σ.1 (b + 7) t))) σ) : Mc 0 MX2_comersIn [vR 1 b, vZ t] σ post := by
  obtain ⟨z1, z2, z3, z4, z5, z6, z7, z8⟩ := hz
  show V 0 MX2_comersIn 0 [some (vR 1 b), some (vZ t)] [] σ post
  refine V_run kX2_comersIn 12 [0, 0] (show (zr t ∧ 0 ≤ t) ∧ (zr t ∧ zr (zlen (b + 7)) ∧ t < (zlen (b + 7))) ∧ (0 ≤ t ∧ t < (zlen (b + 7))) ∧ V 0 MX2_comersIn 23 [some (vR 1 b), some (vZ t)] [vZ (σ.1 (b + 7) t)] σ post from ⟨(by omega), (by omega), (by omega), ?_⟩)
  exact V_iret kX2_comersIn rfl rfl (hp)
set_option maxHeartbeats 4000000 in
set_option maxRecDepth 100000 in
/-- Plan.dueIn -/
theorem c_P_dueIn {b : Nat} {t : Int} {σ : zSt} {post : Option VV → zSt → Prop} (hz : zPz b) (h0 : 0 ≤ t) (h : t < 24) (hp : post (some (vZ (σ.1 (b + 8) t))) σ) : Mc 0 MX2_dueIn [vR 1 b, vZ t] σ post := by
  obtain ⟨z1, z2, z3, z4, z5, z6, z7, z8⟩ := hz
  show V 0 MX2_dueIn 0 [some (vR 1 b), some (vZ t)] [] σ post
  refine V_run kX2_dueIn 12 [0, 0] (show (zr t ∧ 0 ≤ t) ∧ (zr t ∧ zr (zlen (b + 8)) ∧ t < (zlen (b + 8))) ∧ (0 ≤ t ∧ t < (zlen (b + 8))) ∧ V 0 MX2_dueIn 23 [some (vR 1 b), some (vZ t)] [vZ (σ.1 (b + 8) t)] σ post from ⟨(by omega), (by omega), (by omega), ?_⟩)
  exact V_iret kX2_dueIn rfl rfl (hp)
set_option maxHeartbeats 4000000 in
set_option maxRecDepth 100000 in
/-- Plan.kindOf -/
theorem c_P_kindOf {b : Nat} {e : Int} {σ : zSt} {post : Option VV → zSt → Prop} (hz : zPz b) (h0 : 0 ≤ e) (h : e < 9) (hp : post (some (vZ (σ.1 (b + 4) e))) σ) : Mc 0 MX2_kindOf [vR 1 b, vZ e] σ post := by
  obtain ⟨z1, z2, z3, z4, z5, z6, z7, z8⟩ := hz
  show V 0 MX2_kindOf 0 [some (vR 1 b), some (vZ e)] [] σ post
  refine V_run kX2_kindOf 12 [0, 0] (show (zr e ∧ 0 ≤ e) ∧ (zr e ∧ zr (zlen (b + 4)) ∧ e < (zlen (b + 4))) ∧ (0 ≤ e ∧ e < (zlen (b + 4))) ∧ V 0 MX2_kindOf 23 [some (vR 1 b), some (vZ e)] [vZ (σ.1 (b + 4) e)] σ post from ⟨(by omega), (by omega), (by omega), ?_⟩)
  exact V_iret kX2_kindOf rfl rfl (hp)
set_option maxHeartbeats 4000000 in
set_option maxRecDepth 100000 in
/-- Plan.personOf -/
theorem c_P_personOf {b : Nat} {e : Int} {σ : zSt} {post : Option VV → zSt → Prop} (hz : zPz b) (h0 : 0 ≤ e) (h : e < 9) (hp : post (some (vZ (σ.1 (b + 6) e))) σ) : Mc 0 MX2_personOf [vR 1 b, vZ e] σ post := by
  obtain ⟨z1, z2, z3, z4, z5, z6, z7, z8⟩ := hz
  show V 0 MX2_personOf 0 [some (vR 1 b), some (vZ e)] [] σ post
  refine V_run kX2_personOf 12 [0, 0] (show (zr e ∧ 0 ≤ e) ∧ (zr e ∧ zr (zlen (b + 6)) ∧ e < (zlen (b + 6))) ∧ (0 ≤ e ∧ e < (zlen (b + 6))) ∧ V 0 MX2_personOf 23 [some (vR 1 b), some (vZ e)] [vZ (σ.1 (b + 6) e)] σ post from ⟨(by omega), (by omega), (by omega), ?_⟩)
  exact V_iret kX2_personOf rfl rfl (hp)
set_option maxHeartbeats 4000000 in
set_option maxRecDepth 100000 in
/-- Plan.parcelOf -/
theorem c_P_parcelOf {b : Nat} {p : Int} {r : Nat} {σ : zSt} {post : Option VV → zSt → Prop} (hr : r < 16 ^ 12) (hw : σ.2 b 3 = lN r) (h0 : 0 ≤ p) (h : p < 12) (hp : post (some (vZ (dgt r p))) σ) : Mc 1 MX2_parcelOf [vR 1 b, vZ p] σ post := by
  show V 1 MX2_parcelOf 0 [some (vR 1 b), some (vZ p)] [] σ post
  refine V_run kX2_parcelOf 3 [] (show V 1 MX2_parcelOf 5 [some (vR 1 b), some (vZ p)] [vZ p, vL (σ.2 b 3)] σ post from ?_)
  rw [hw]
  refine V_callS (a := [vL (lN r), vZ p]) (rest := []) kX2_parcelOf rfl oX1_digit iX1_digit lk_2_85 rfl rfl (Nat.le_of_ble_eq_true rfl) (Nat.le_of_ble_eq_true rfl) (Nat.le_of_ble_eq_true rfl) (post' := fun zv zσ => V 1 MX2_parcelOf 8 [some (vR 1 b), some (vZ p)] (zv.toList ++ []) zσ post) (c_digit hr h0 h ((show V 1 MX2_parcelOf 8 [some (vR 1 b), some (vZ p)] [vZ (dgt r p)] σ post from ?_))) (fun _ _ h => h)
  exact V_iret kX2_parcelOf rfl rfl (hp)
set_option maxHeartbeats 4000000 in
set_option maxRecDepth 100000 in
/-- Plan.setSort -/
theorem c_P_setSort {b : Nat} {p v : Int} {σ : zSt} {post : Option VV → zSt → Prop} (hz : zPz b) (h0 : 0 ≤ p) (h : p < 12) (hp : post none (uI σ (b + 2) p v)) : Mc 0 MX2_setSort [vR 1 b, vZ p, vZ v] σ post := by
  obtain ⟨z1, z2, z3, z4, z5, z6, z7, z8⟩ := hz
  show V 0 MX2_setSort 0 [some (vR 1 b), some (vZ p), some (vZ v)] [] σ post
  refine V_run kX2_setSort 12 [0, 0] (show (zr p ∧ 0 ≤ p) ∧ (zr p ∧ zr (zlen (b + 2)) ∧ p < (zlen (b + 2))) ∧ (0 ≤ p ∧ p < (zlen (b + 2))) ∧ V 0 MX2_setSort 20 [some (vR 1 b), some (vZ p), some (vZ v)] [] (uI σ (b + 2) p v) post from ⟨(by omega), (by omega), (by omega), ?_⟩)
  exact V_vret kX2_setSort rfl rfl (hp)
set_option maxHeartbeats 4000000 in
set_option maxRecDepth 100000 in
/-- Plan.setOpen -/
theorem c_P_setOpen {b : Nat} {t v : Int} {σ : zSt} {post : Option VV → zSt → Prop} (hz : zPz b) (h0 : 0 ≤ t) (h : t < 24) (hp : post none (uI σ (b + 3) t v)) : Mc 0 MX2_setOpen [vR 1 b, vZ t, vZ v] σ post := by
  obtain ⟨z1, z2, z3, z4, z5, z6, z7, z8⟩ := hz
  show V 0 MX2_setOpen 0 [some (vR 1 b), some (vZ t), some (vZ v)] [] σ post
  refine V_run kX2_setOpen 12 [0, 0] (show (zr t ∧ 0 ≤ t) ∧ (zr t ∧ zr (zlen (b + 3)) ∧ t < (zlen (b + 3))) ∧ (0 ≤ t ∧ t < (zlen (b + 3))) ∧ V 0 MX2_setOpen 20 [some (vR 1 b), some (vZ t), some (vZ v)] [] (uI σ (b + 3) t v) post from ⟨(by omega), (by omega), (by omega), ?_⟩)
  exact V_vret kX2_setOpen rfl rfl (hp)
set_option maxHeartbeats 4000000 in
set_option maxRecDepth 100000 in
/-- Plan.setParcel -/
theorem c_P_setParcel {b : Nat} {p v : Int} {r : Nat} {σ : zSt} {post : Option VV → zSt → Prop} (hr : r < 16 ^ 12) (hw : σ.2 b 3 = lN r) (h0 : 0 ≤ p) (h : p < 12) (hv0 : 0 ≤ v) (hv : v < 16) (hp : post none (uL σ b 3 (lN (rRep r p v)))) : Mc 1 MX2_setParcel [vR 1 b, vZ p, vZ v] σ post := by
  show V 1 MX2_setParcel 0 [some (vR 1 b), some (vZ p), some (vZ v)] [] σ post
  refine V_run kX2_setParcel 5 [] (show V 1 MX2_setParcel 7 [some (vR 1 b), some (vZ p), some (vZ v)] [vZ v, vZ p, vL (σ.2 b 3), vR 1 b] σ post from ?_)
  rw [hw]
  refine V_callS (a := [vL (lN r), vZ p, vZ v]) (rest := [vR 1 b]) kX2_setParcel rfl oX1_replaced iX1_replaced lk_2_91 rfl rfl (Nat.le_of_ble_eq_true rfl) (Nat.le_of_ble_eq_true rfl) (Nat.le_of_ble_eq_true rfl) (post' := fun zv zσ => V 1 MX2_setParcel 10 [some (vR 1 b), some (vZ p), some (vZ v)] (zv.toList ++ [vR 1 b]) zσ post) (c_replaced hr h0 h hv0 hv ((show V 1 MX2_setParcel 10 [some (vR 1 b), some (vZ p), some (vZ v)] [vL (lN (rRep r p v)), vR 1 b] σ post from ?_))) (fun _ _ h => h)
  refine V_run kX2_setParcel 1 [] (show V 1 MX2_setParcel 13 [some (vR 1 b), some (vZ p), some (vZ v)] [] (uL σ b 3 (lN (rRep r p v))) post from ?_)
  exact V_vret kX2_setParcel rfl rfl (hp)
def sCom (σ : zSt) (b : Nat) (p m : Int) : zSt :=
  uI (uI (uI σ (b + 7) (σ.1 (b + 1) p) (zand (σ.1 (b + 7) (σ.1 (b + 1) p)) (zxor (zshl 1 p) (-1)))) (b + 1) p m) (b + 7) m (zor ((uI (uI σ (b + 7) (σ.1 (b + 1) p) (zand (σ.1 (b + 7) (σ.1 (b + 1) p)) (zxor (zshl 1 p) (-1)))) (b + 1) p m).1 (b + 7) m) (zshl 1 p))
def sAdd (σ : zSt) (b : Nat) (e v t p : Int) : zSt :=
  uI (uI (uI (uI (uI σ (b + 4) e v) (b + 5) e t) (b + 6) e p) (b + 8) t (zor ((uI (uI (uI σ (b + 4) e v) (b + 5) e t) (b + 6) e p).1 (b + 8) t) (zshl 1 e))) b 5 (e + 1)
def sDrop (σ : zSt) (b : Nat) (e : Int) : zSt :=
  uI (uI σ (b + 8) (σ.1 (b + 5) e) (zand (σ.1 (b + 8) (σ.1 (b + 5) e)) (zxor (zshl 1 e) (-1)))) b 5 e
def sTake (σ : zSt) (b a : Nat) : zSt :=
  cpI (cpI (cpI (cpI (cpI (cpI (cpI (cpI (uI (uL (uI σ b 0 (σ.1 a 0)) b 3 ((uI σ b 0 (σ.1 a 0)).2 a 3)) b 5 ((uL (uI σ b 0 (σ.1 a 0)) b 3 ((uI σ b 0 (σ.1 a 0)).2 a 3)).1 a 5)) (a + 1) 0 (b + 1) 0 12) (a + 2) 0 (b + 2) 0 12) (a + 3) 0 (b + 3) 0 24) (a + 4) 0 (b + 4) 0 9) (a + 5) 0 (b + 5) 0 9) (a + 6) 0 (b + 6) 0 9) (a + 7) 0 (b + 7) 0 24) (a + 8) 0 (b + 8) 0 24
set_option maxHeartbeats 4000000 in
set_option maxRecDepth 100000 in
/-- Plan.setComing -/
theorem c_P_setComing {b : Nat} {m p : Int} {σ : zSt} {post : Option VV → zSt → Prop} (hz : zPz b) (h0 : 0 ≤ p) (h : p < 12) (hm0 : 0 ≤ m) (hm : m < 24) (hc0 : 0 ≤ σ.1 (b + 1) p) (hc : σ.1 (b + 1) p < 24) (hp : post none (sCom σ b p m)) : Mc 0 MX2_setComing [vR 1 b, vZ p, vZ m] σ post := by
  obtain ⟨z1, z2, z3, z4, z5, z6, z7, z8⟩ := hz
  show V 0 MX2_setComing 0 [some (vR 1 b), some (vZ p), some (vZ m), none] [] σ post
  refine V_run kX2_setComing 53 [0, 0, 0, 1, 0, 0] (show (zr p ∧ 0 ≤ p) ∧ (zr p ∧ zr (zlen (b + 1)) ∧ p < (zlen (b + 1))) ∧ (zr m ∧ 0 ≤ m) ∧ (zr m ∧ zr (zlen (b + 7)) ∧ m < (zlen (b + 7))) ∧ (0 ≤ p ∧ p < (zlen (b + 1))) ∧ (zr (σ.1 (b + 1) p) ∧ 0 ≤ (σ.1 (b + 1) p)) ∧ (zr (σ.1 (b + 1) p) ∧ zr (zlen (b + 7)) ∧ (σ.1 (b + 1) p) < (zlen (b + 7))) ∧ (0 ≤ (σ.1 (b + 1) p) ∧ (σ.1 (b + 1) p) < (zlen (b + 7))) ∧ (0 ≤ (σ.1 (b + 1) p) ∧ (σ.1 (b + 1) p) < (zlen (b + 7))) ∧ (0 ≤ p ∧ p < (zlen (b + 1))) ∧ (0 ≤ m ∧ m < (zlen (b + 7))) ∧ (0 ≤ m ∧ m < (zlen (b + 7))) ∧ V 0 MX2_setComing 80 [some (vR 1 b), some (vZ p), some (vZ m), some (vZ (σ.1 (b + 1) p))] [] (uI (uI (uI σ (b + 7) (σ.1 (b + 1) p) (zand (σ.1 (b + 7) (σ.1 (b + 1) p)) (zxor (zshl 1 p) (-1)))) (b + 1) p m) (b + 7) m (zor ((uI (uI σ (b + 7) (σ.1 (b + 1) p) (zand (σ.1 (b + 7) (σ.1 (b + 1) p)) (zxor (zshl 1 p) (-1)))) (b + 1) p m).1 (b + 7) m) (zshl 1 p))) post from ⟨(by omega), (by omega), (by omega), (by omega), (by omega), (by omega), (by omega), (by omega), (by omega), (by omega), (by omega), (by omega), ?_⟩)
  exact V_vret kX2_setComing rfl rfl (hp)
set_option maxHeartbeats 4000000 in
set_option maxRecDepth 100000 in
/-- Plan.addEvent -/
theorem c_P_addEvent {b : Nat} {e v t p : Int} {σ : zSt} {post : Option VV → zSt → Prop} (hz : zPz b) (he : σ.1 b 5 = e) (h0 : 0 ≤ e) (h : e < 9) (ht0 : 0 ≤ t) (ht : t < 24) (hp : post none (sAdd σ b e v t p)) : Mc 0 MX2_addEvent [vR 1 b, vZ v, vZ t, vZ p] σ post := by
  obtain ⟨z1, z2, z3, z4, z5, z6, z7, z8⟩ := hz
  show V 0 MX2_addEvent 0 [some (vR 1 b), some (vZ v), some (vZ t), some (vZ p), none] [] σ post
  refine V_run kX2_addEvent 2 [] (show V 0 MX2_addEvent 4 [some (vR 1 b), some (vZ v), some (vZ t), some (vZ p), none] [vZ (σ.1 b 5)] σ post from ?_)
  rw [he]
  refine V_run kX2_addEvent 55 [0, 0, 0, 1, 0, 0] (show (zr e ∧ 0 ≤ e) ∧ (zr e ∧ zr (zlen (b + 4)) ∧ e < (zlen (b + 4))) ∧ (zr e ∧ zr (zlen (b + 5)) ∧ e < (zlen (b + 5))) ∧ (zr e ∧ zr (zlen (b + 6)) ∧ e < (zlen (b + 6))) ∧ (0 ≤ e ∧ e < (zlen (b + 4))) ∧ (0 ≤ e ∧ e < (zlen (b + 5))) ∧ (0 ≤ e ∧ e < (zlen (b + 6))) ∧ (zr t ∧ 0 ≤ t) ∧ (zr t ∧ zr (zlen (b + 8)) ∧ t < (zlen (b + 8))) ∧ (0 ≤ t ∧ t < (zlen (b + 8))) ∧ (0 ≤ t ∧ t < (zlen (b + 8))) ∧ V 0 MX2_addEvent 100 [some (vR 1 b), some (vZ v), some (vZ t), some (vZ p), some (vZ e)] [] (uI (uI (uI (uI (uI σ (b + 4) e v) (b + 5) e t) (b + 6) e p) (b + 8) t (zor ((uI (uI (uI σ (b + 4) e v) (b + 5) e t) (b + 6) e p).1 (b + 8) t) (zshl 1 e))) b 5 (e + 1)) post from ⟨(by omega), (by omega), (by omega), (by omega), (by omega), (by omega), (by omega), (by omega), (by omega), (by omega), (by omega), ?_⟩)
  exact V_vret kX2_addEvent rfl rfl (hp)
set_option maxHeartbeats 4000000 in
set_option maxRecDepth 100000 in
/-- Plan.dropEvent -/
theorem c_P_dropEvent {b : Nat} {e : Int} {σ : zSt} {post : Option VV → zSt → Prop} (hz : zPz b) (he : σ.1 b 5 = e + 1) (h0 : 0 ≤ e) (h : e < 9) (ht0 : 0 ≤ σ.1 (b + 5) e) (ht : σ.1 (b + 5) e < 24) (hp : post (some (vZ 1)) (sDrop σ b e)) : Mc 0 MX2_dropEvent [vR 1 b] σ post := by
  obtain ⟨z1, z2, z3, z4, z5, z6, z7, z8⟩ := hz
  show V 0 MX2_dropEvent 0 [some (vR 1 b), none, none] [] σ post
  refine V_run kX2_dropEvent 2 [] (show V 0 MX2_dropEvent 4 [some (vR 1 b), none, none] [vZ (σ.1 b 5)] σ post from ?_)
  refine V_run kX2_dropEvent 2 [] (show V 0 MX2_dropEvent 6 [some (vR 1 b), none, none] [vZ ((σ.1 b 5) - 1)] σ post from ?_)
  refine V_top (show σ.1 b 5 - 1 = e by omega) ?_
  refine V_run kX2_dropEvent 36 [0, 1, 0, 0] (show (zr e ∧ 0 ≤ e) ∧ (zr e ∧ zr (zlen (b + 5)) ∧ e < (zlen (b + 5))) ∧ (0 ≤ e ∧ e < (zlen (b + 5))) ∧ (zr (σ.1 (b + 5) e) ∧ 0 ≤ (σ.1 (b + 5) e)) ∧ (zr (σ.1 (b + 5) e) ∧ zr (zlen (b + 8)) ∧ (σ.1 (b + 5) e) < (zlen (b + 8))) ∧ (0 ≤ (σ.1 (b + 5) e) ∧ (σ.1 (b + 5) e) < (zlen (b + 8))) ∧ (0 ≤ (σ.1 (b + 5) e) ∧ (σ.1 (b + 5) e) < (zlen (b + 8))) ∧ V 0 MX2_dropEvent 62 [some (vR 1 b), some (vZ e), some (vZ (σ.1 (b + 5) e))] [vZ 1] (uI (uI σ (b + 8) (σ.1 (b + 5) e) (zand (σ.1 (b + 8) (σ.1 (b + 5) e)) (zxor (zshl 1 e) (-1)))) b 5 e) post from ⟨(by omega), (by omega), (by omega), (by omega), (by omega), (by omega), (by omega), ?_⟩)
  exact V_zret kX2_dropEvent rfl rfl (Or.inr rfl) (hp)
set_option maxHeartbeats 4000000 in
set_option maxRecDepth 100000 in
/-- Plan.dropEvent, none there -/
theorem c_P_dropEvent0 {b : Nat} {σ : zSt} {post : Option VV → zSt → Prop} (he : σ.1 b 5 = 0) (hp : post (some (vZ 0)) σ) : Mc 0 MX2_dropEvent [vR 1 b] σ post := by
  show V 0 MX2_dropEvent 0 [some (vR 1 b), none, none] [] σ post
  refine V_run kX2_dropEvent 2 [] (show V 0 MX2_dropEvent 4 [some (vR 1 b), none, none] [vZ (σ.1 b 5)] σ post from ?_)
  rw [he]
  refine V_run kX2_dropEvent 6 [1] (show (zr (-1) ∧ (-1) < 0) ∧ V 0 MX2_dropEvent 21 [some (vR 1 b), some (vZ (-1)), none] [vZ 0] σ post from ⟨(by omega), ?_⟩)
  exact V_zret kX2_dropEvent rfl rfl (Or.inl rfl) (hp)
set_option maxHeartbeats 4000000 in
set_option maxRecDepth 100000 in
/-- Plan.take -/
theorem c_P_take {b a : Nat} {σ : zSt} {post : Option VV → zSt → Prop} (hz : zPz b) (hy : zPz a) (hp : post none (sTake σ b a)) : Mc 1 MX2_take [vR 1 b, vR 1 a] σ post := by
  obtain ⟨z1, z2, z3, z4, z5, z6, z7, z8⟩ := hz
  obtain ⟨y1, y2, y3, y4, y5, y6, y7, y8⟩ := hy
  show V 1 MX2_take 0 [some (vR 1 b), some (vR 1 a)] [] σ post
  refine V_run kX2_take 19 [] (show V 1 MX2_take 36 [some (vR 1 b), some (vR 1 a)] [vZ 12, vZ 0, vR 8 (b + 1), vZ 0, vR 8 (a + 1)] (uI (uL (uI σ b 0 (σ.1 a 0)) b 3 ((uI σ b 0 (σ.1 a 0)).2 a 3)) b 5 ((uL (uI σ b 0 (σ.1 a 0)) b 3 ((uI σ b 0 (σ.1 a 0)).2 a 3)).1 a 5)) post from ?_)
  refine V_copy kX2_take rfl lk_2_79 (by decide) rfl (by omega) (by omega) (by omega) (by omega) (by omega) (show V 1 MX2_take 39 [some (vR 1 b), some (vR 1 a)] [] (cpI (uI (uL (uI σ b 0 (σ.1 a 0)) b 3 ((uI σ b 0 (σ.1 a 0)).2 a 3)) b 5 ((uL (uI σ b 0 (σ.1 a 0)) b 3 ((uI σ b 0 (σ.1 a 0)).2 a 3)).1 a 5)) (a + 1) 0 (b + 1) 0 12) post from ?_)
  refine V_run kX2_take 7 [] (show V 1 MX2_take 51 [some (vR 1 b), some (vR 1 a)] [vZ 12, vZ 0, vR 8 (b + 2), vZ 0, vR 8 (a + 2)] (cpI (uI (uL (uI σ b 0 (σ.1 a 0)) b 3 ((uI σ b 0 (σ.1 a 0)).2 a 3)) b 5 ((uL (uI σ b 0 (σ.1 a 0)) b 3 ((uI σ b 0 (σ.1 a 0)).2 a 3)).1 a 5)) (a + 1) 0 (b + 1) 0 12) post from ?_)
  refine V_copy kX2_take rfl lk_2_79 (by decide) rfl (by omega) (by omega) (by omega) (by omega) (by omega) (show V 1 MX2_take 54 [some (vR 1 b), some (vR 1 a)] [] (cpI (cpI (uI (uL (uI σ b 0 (σ.1 a 0)) b 3 ((uI σ b 0 (σ.1 a 0)).2 a 3)) b 5 ((uL (uI σ b 0 (σ.1 a 0)) b 3 ((uI σ b 0 (σ.1 a 0)).2 a 3)).1 a 5)) (a + 1) 0 (b + 1) 0 12) (a + 2) 0 (b + 2) 0 12) post from ?_)
  refine V_run kX2_take 7 [] (show V 1 MX2_take 66 [some (vR 1 b), some (vR 1 a)] [vZ 24, vZ 0, vR 8 (b + 3), vZ 0, vR 8 (a + 3)] (cpI (cpI (uI (uL (uI σ b 0 (σ.1 a 0)) b 3 ((uI σ b 0 (σ.1 a 0)).2 a 3)) b 5 ((uL (uI σ b 0 (σ.1 a 0)) b 3 ((uI σ b 0 (σ.1 a 0)).2 a 3)).1 a 5)) (a + 1) 0 (b + 1) 0 12) (a + 2) 0 (b + 2) 0 12) post from ?_)
  refine V_copy kX2_take rfl lk_2_79 (by decide) rfl (by omega) (by omega) (by omega) (by omega) (by omega) (show V 1 MX2_take 69 [some (vR 1 b), some (vR 1 a)] [] (cpI (cpI (cpI (uI (uL (uI σ b 0 (σ.1 a 0)) b 3 ((uI σ b 0 (σ.1 a 0)).2 a 3)) b 5 ((uL (uI σ b 0 (σ.1 a 0)) b 3 ((uI σ b 0 (σ.1 a 0)).2 a 3)).1 a 5)) (a + 1) 0 (b + 1) 0 12) (a + 2) 0 (b + 2) 0 12) (a + 3) 0 (b + 3) 0 24) post from ?_)
  refine V_run kX2_take 7 [] (show V 1 MX2_take 81 [some (vR 1 b), some (vR 1 a)] [vZ 9, vZ 0, vR 8 (b + 4), vZ 0, vR 8 (a + 4)] (cpI (cpI (cpI (uI (uL (uI σ b 0 (σ.1 a 0)) b 3 ((uI σ b 0 (σ.1 a 0)).2 a 3)) b 5 ((uL (uI σ b 0 (σ.1 a 0)) b 3 ((uI σ b 0 (σ.1 a 0)).2 a 3)).1 a 5)) (a + 1) 0 (b + 1) 0 12) (a + 2) 0 (b + 2) 0 12) (a + 3) 0 (b + 3) 0 24) post from ?_)
  refine V_copy kX2_take rfl lk_2_79 (by decide) rfl (by omega) (by omega) (by omega) (by omega) (by omega) (show V 1 MX2_take 84 [some (vR 1 b), some (vR 1 a)] [] (cpI (cpI (cpI (cpI (uI (uL (uI σ b 0 (σ.1 a 0)) b 3 ((uI σ b 0 (σ.1 a 0)).2 a 3)) b 5 ((uL (uI σ b 0 (σ.1 a 0)) b 3 ((uI σ b 0 (σ.1 a 0)).2 a 3)).1 a 5)) (a + 1) 0 (b + 1) 0 12) (a + 2) 0 (b + 2) 0 12) (a + 3) 0 (b + 3) 0 24) (a + 4) 0 (b + 4) 0 9) post from ?_)
  refine V_run kX2_take 7 [] (show V 1 MX2_take 96 [some (vR 1 b), some (vR 1 a)] [vZ 9, vZ 0, vR 8 (b + 5), vZ 0, vR 8 (a + 5)] (cpI (cpI (cpI (cpI (uI (uL (uI σ b 0 (σ.1 a 0)) b 3 ((uI σ b 0 (σ.1 a 0)).2 a 3)) b 5 ((uL (uI σ b 0 (σ.1 a 0)) b 3 ((uI σ b 0 (σ.1 a 0)).2 a 3)).1 a 5)) (a + 1) 0 (b + 1) 0 12) (a + 2) 0 (b + 2) 0 12) (a + 3) 0 (b + 3) 0 24) (a + 4) 0 (b + 4) 0 9) post from ?_)
  refine V_copy kX2_take rfl lk_2_79 (by decide) rfl (by omega) (by omega) (by omega) (by omega) (by omega) (show V 1 MX2_take 99 [some (vR 1 b), some (vR 1 a)] [] (cpI (cpI (cpI (cpI (cpI (uI (uL (uI σ b 0 (σ.1 a 0)) b 3 ((uI σ b 0 (σ.1 a 0)).2 a 3)) b 5 ((uL (uI σ b 0 (σ.1 a 0)) b 3 ((uI σ b 0 (σ.1 a 0)).2 a 3)).1 a 5)) (a + 1) 0 (b + 1) 0 12) (a + 2) 0 (b + 2) 0 12) (a + 3) 0 (b + 3) 0 24) (a + 4) 0 (b + 4) 0 9) (a + 5) 0 (b + 5) 0 9) post from ?_)
  refine V_run kX2_take 7 [] (show V 1 MX2_take 111 [some (vR 1 b), some (vR 1 a)] [vZ 9, vZ 0, vR 8 (b + 6), vZ 0, vR 8 (a + 6)] (cpI (cpI (cpI (cpI (cpI (uI (uL (uI σ b 0 (σ.1 a 0)) b 3 ((uI σ b 0 (σ.1 a 0)).2 a 3)) b 5 ((uL (uI σ b 0 (σ.1 a 0)) b 3 ((uI σ b 0 (σ.1 a 0)).2 a 3)).1 a 5)) (a + 1) 0 (b + 1) 0 12) (a + 2) 0 (b + 2) 0 12) (a + 3) 0 (b + 3) 0 24) (a + 4) 0 (b + 4) 0 9) (a + 5) 0 (b + 5) 0 9) post from ?_)
  refine V_copy kX2_take rfl lk_2_79 (by decide) rfl (by omega) (by omega) (by omega) (by omega) (by omega) (show V 1 MX2_take 114 [some (vR 1 b), some (vR 1 a)] [] (cpI (cpI (cpI (cpI (cpI (cpI (uI (uL (uI σ b 0 (σ.1 a 0)) b 3 ((uI σ b 0 (σ.1 a 0)).2 a 3)) b 5 ((uL (uI σ b 0 (σ.1 a 0)) b 3 ((uI σ b 0 (σ.1 a 0)).2 a 3)).1 a 5)) (a + 1) 0 (b + 1) 0 12) (a + 2) 0 (b + 2) 0 12) (a + 3) 0 (b + 3) 0 24) (a + 4) 0 (b + 4) 0 9) (a + 5) 0 (b + 5) 0 9) (a + 6) 0 (b + 6) 0 9) post from ?_)
  refine V_run kX2_take 7 [] (show V 1 MX2_take 126 [some (vR 1 b), some (vR 1 a)] [vZ 24, vZ 0, vR 8 (b + 7), vZ 0, vR 8 (a + 7)] (cpI (cpI (cpI (cpI (cpI (cpI (uI (uL (uI σ b 0 (σ.1 a 0)) b 3 ((uI σ b 0 (σ.1 a 0)).2 a 3)) b 5 ((uL (uI σ b 0 (σ.1 a 0)) b 3 ((uI σ b 0 (σ.1 a 0)).2 a 3)).1 a 5)) (a + 1) 0 (b + 1) 0 12) (a + 2) 0 (b + 2) 0 12) (a + 3) 0 (b + 3) 0 24) (a + 4) 0 (b + 4) 0 9) (a + 5) 0 (b + 5) 0 9) (a + 6) 0 (b + 6) 0 9) post from ?_)
  refine V_copy kX2_take rfl lk_2_79 (by decide) rfl (by omega) (by omega) (by omega) (by omega) (by omega) (show V 1 MX2_take 129 [some (vR 1 b), some (vR 1 a)] [] (cpI (cpI (cpI (cpI (cpI (cpI (cpI (uI (uL (uI σ b 0 (σ.1 a 0)) b 3 ((uI σ b 0 (σ.1 a 0)).2 a 3)) b 5 ((uL (uI σ b 0 (σ.1 a 0)) b 3 ((uI σ b 0 (σ.1 a 0)).2 a 3)).1 a 5)) (a + 1) 0 (b + 1) 0 12) (a + 2) 0 (b + 2) 0 12) (a + 3) 0 (b + 3) 0 24) (a + 4) 0 (b + 4) 0 9) (a + 5) 0 (b + 5) 0 9) (a + 6) 0 (b + 6) 0 9) (a + 7) 0 (b + 7) 0 24) post from ?_)
  refine V_run kX2_take 7 [] (show V 1 MX2_take 141 [some (vR 1 b), some (vR 1 a)] [vZ 24, vZ 0, vR 8 (b + 8), vZ 0, vR 8 (a + 8)] (cpI (cpI (cpI (cpI (cpI (cpI (cpI (uI (uL (uI σ b 0 (σ.1 a 0)) b 3 ((uI σ b 0 (σ.1 a 0)).2 a 3)) b 5 ((uL (uI σ b 0 (σ.1 a 0)) b 3 ((uI σ b 0 (σ.1 a 0)).2 a 3)).1 a 5)) (a + 1) 0 (b + 1) 0 12) (a + 2) 0 (b + 2) 0 12) (a + 3) 0 (b + 3) 0 24) (a + 4) 0 (b + 4) 0 9) (a + 5) 0 (b + 5) 0 9) (a + 6) 0 (b + 6) 0 9) (a + 7) 0 (b + 7) 0 24) post from ?_)
  refine V_copy kX2_take rfl lk_2_79 (by decide) rfl (by omega) (by omega) (by omega) (by omega) (by omega) (show V 1 MX2_take 144 [some (vR 1 b), some (vR 1 a)] [] (cpI (cpI (cpI (cpI (cpI (cpI (cpI (cpI (uI (uL (uI σ b 0 (σ.1 a 0)) b 3 ((uI σ b 0 (σ.1 a 0)).2 a 3)) b 5 ((uL (uI σ b 0 (σ.1 a 0)) b 3 ((uI σ b 0 (σ.1 a 0)).2 a 3)).1 a 5)) (a + 1) 0 (b + 1) 0 12) (a + 2) 0 (b + 2) 0 12) (a + 3) 0 (b + 3) 0 24) (a + 4) 0 (b + 4) 0 9) (a + 5) 0 (b + 5) 0 9) (a + 6) 0 (b + 6) 0 9) (a + 7) 0 (b + 7) 0 24) (a + 8) 0 (b + 8) 0 24) post from ?_)
  exact V_vret kX2_take rfl rfl (hp)
def fZero (σ : zSt) (k : Nat) (n : Int) : zSt := (fun a j => if a = k ∧ 0 ≤ j ∧ j < n then 0 else σ.1 a j, σ.2)
theorem fZero_0 (σ : zSt) (k : Nat) : fZero σ k 0 = σ := by
  unfold fZero
  obtain ⟨a, b⟩ := σ
  congr 1
  funext x y
  exact if_neg (fun z => by omega)
theorem fZero_s {σ : zSt} {k : Nat} {n : Int} (h : 0 ≤ n) : uI (fZero σ k n) k n 0 = fZero σ k (n + 1) := by
  unfold uI fZero
  congr 1
  funext x y
  by_cases h1 : x = k ∧ y = n
  · rw [if_pos h1, if_pos ⟨h1.1, by omega, by omega⟩]
  · rw [if_neg h1]
    show (if x = k ∧ 0 ≤ y ∧ y < n then 0 else σ.1 x y) = _
    by_cases h2 : x = k ∧ 0 ≤ y ∧ y < n
    · rw [if_pos h2, if_pos ⟨h2.1, by omega, by omega⟩]
    · rw [if_neg h2, if_neg]
      intro z
      rcases Int.lt_or_le y n with q | q
      · exact h2 ⟨z.1, z.2.1, q⟩
      · exact h1 ⟨z.1, by omega⟩
set_option maxHeartbeats 4000000 in
set_option maxRecDepth 100000 in
/-- Plan.dropEvents -/
theorem c_P_dropEvents {b : Nat} {σ : zSt} {post : Option VV → zSt → Prop} (hz : zPz b) (hp : post none (uI (fZero σ (b + 8) 24) b 5 0)) : Mc 0 MX2_dropEvents [vR 1 b] σ post := by
  obtain ⟨z1, z2, z3, z4, z5, z6, z7, z8⟩ := hz
  show V 0 MX2_dropEvents 0 [some (vR 1 b), none] [] σ post
  refine V_run kX2_dropEvents 2 [] (show V 0 MX2_dropEvents 2 [some (vR 1 b), some (vZ 0)] [] σ post from ?_)
  have loop : ∀ (m : Nat) (i : Int), 0 ≤ i → i + m = 24 → V 0 MX2_dropEvents 2 [some (vR 1 b), some (vZ i)] [] (fZero σ (b + 8) i) post := by
    intro m
    induction m with
    | zero =>
      intro i h0 hi
      have h24 : i = 24 := by omega
      refine V_run kX2_dropEvents 8 [1] (show (zr i ∧ zr (zlen (b + 8)) ∧ (zlen (b + 8)) ≤ i) ∧ V 0 MX2_dropEvents 29 [some (vR 1 b), some (vZ i)] [] (uI (fZero σ (b + 8) i) b 5 0) post from ⟨(by omega), ?_⟩)
      subst h24
      exact V_vret kX2_dropEvents rfl rfl (hp)
    | succ m ih =>
      intro i h0 hi
      refine V_run kX2_dropEvents 12 [0] (show (zr i ∧ zr (zlen (b + 8)) ∧ i < (zlen (b + 8))) ∧ (0 ≤ i ∧ i < (zlen (b + 8))) ∧ V 0 MX2_dropEvents 2 [some (vR 1 b), some (vZ (i + 1))] [] (uI (fZero σ (b + 8) i) (b + 8) i 0) post from ⟨(by omega), (by omega), ?_⟩)
      rw [fZero_s h0]
      exact ih (i + 1) (by omega) (by omega)
  have h1 := loop 24 0 (by omega) (by omega)
  rw [fZero_0] at h1
  exact h1
