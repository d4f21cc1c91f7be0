/-- the calls that change something: on both sides by one pair, the state behind and the answer -/
theorem c_Mt_type {x v : Int} {S : zAb} {σ : zSt} {post : Option VV → zSt → Prop} (hR : RM σ S) (ho : aOk S) (hx : zr x) (hv : zr v) (hp : ∀ σ', cKeep σ σ' → RM σ' (tType S x v).1 → post (some (vZ (tType S x v).2)) σ') : Mc 2 MX7_type [vR 6 44, vZ x, vZ v] σ post := by
  refine c_M_type hR ho hx hv (fun q => ?_) (fun q e => ?_) (fun q l σ' hk hR' => ?_)
  · have e : tType S x v = (S, -2) := if_neg q
    rw [e] at hp; exact hp σ cKeep.rf hR
  · have e : tType S x v = (S, -4) := (if_pos q).trans (if_pos e)
    rw [e] at hp; exact hp σ cKeep.rf hR
  · have e : tType S x v = (aTypS S x v, aTyp S x + 1) := (if_pos q).trans (if_neg (by omega))
    rw [e] at hp; exact hp σ' hk hR'
theorem c_Mt_wipe {x : Int} {S : zAb} {σ : zSt} {post : Option VV → zSt → Prop} (hR : RM σ S) (ho : aOk S) (hx : zr x) (hp : ∀ σ', cKeep σ σ' → RM σ' (tWipe S x).1 → post (some (vZ (tWipe S x).2)) σ') : Mc 2 MX7_wipe [vR 6 44, vZ x] σ post := by
  refine c_M_wipe hR ho hx (fun q => ?_) (fun q σ' hk hR' => ?_)
  · have e : tWipe S x = (S, -2) := if_neg q
    rw [e] at hp; exact hp σ cKeep.rf hR
  · have e : tWipe S x = (aSzS S x 0, aTyp S x) := if_pos q
    rw [e] at hp; exact hp σ' hk hR'
theorem c_Mt_undo {x : Int} {S : zAb} {σ : zSt} {post : Option VV → zSt → Prop} (hR : RM σ S) (ho : aOk S) (hx : zr x) (hp : ∀ σ', cKeep σ σ' → RM σ' (tUndo S x).1 → post (some (vZ (tUndo S x).2)) σ') : Mc 2 MX7_undo [vR 6 44, vZ x] σ post := by
  refine c_M_undo hR ho hx (fun q => ?_) (fun q e => ?_) (fun q l σ' hk hR' => ?_)
  · have e : tUndo S x = (S, -2) := if_neg q
    rw [e] at hp; exact hp σ cKeep.rf hR
  · have e : tUndo S x = (S, -3) := (if_pos q).trans (if_pos e)
    rw [e] at hp; exact hp σ cKeep.rf hR
  · have e : tUndo S x = (aSzS S x (aTyp S x - 1), aTyp S x - 1) := (if_pos q).trans (if_neg (by omega))
    rw [e] at hp; exact hp σ' hk hR'
theorem c_Mt_event {k t p : Int} {S : zAb} {σ : zSt} {post : Option VV → zSt → Prop} (hR : RM σ S) (ho : aOk S) (hk : zr k) (ht : zr t) (hq : zr p) (hp : ∀ σ', cKeep σ σ' → RM σ' (tEvent S k t p).1 → post (some (vZ (tEvent S k t p).2)) σ') : Mc 2 MX7_event [vR 6 44, vZ k, vZ t, vZ p] σ post := by
  refine c_M_event hR ho hk ht hq (fun q => ?_) (fun q e => ?_) (fun q l σ' hk hR' => ?_)
  · have e : tEvent S k t p = (S, -2) := if_neg q
    rw [e] at hp; exact hp σ cKeep.rf hR
  · have e : tEvent S k t p = (S, -4) := (if_pos q).trans (if_pos e)
    rw [e] at hp; exact hp σ cKeep.rf hR
  · have e : tEvent S k t p = (aEventS S k t p, a_eN S + 1) := (if_pos q).trans (if_neg (by omega))
    rw [e] at hp; exact hp σ' hk hR'
theorem c_Mt_back {S : zAb} {σ : zSt} {post : Option VV → zSt → Prop} (hR : RM σ S) (ho : aOk S) (hp : ∀ σ', cKeep σ σ' → RM σ' (tBack S).1 → post (some (vZ (tBack S).2)) σ') : Mc 0 MX7_back [vR 6 44] σ post := by
  refine c_M_back hR ho (fun q => ?_) (fun q σ' hk hR' => ?_)
  · have e : tBack S = (S, -3) := if_pos q
    rw [e] at hp; exact hp σ cKeep.rf hR
  · have e : tBack S = (aBackS S, a_eN S - 1) := if_neg (by omega)
    rw [e] at hp; exact hp σ' hk hR'
theorem c_Mt_seen {t p k : Int} {S : zAb} {σ : zSt} {post : Option VV → zSt → Prop} (hR : RM σ S) (ho : aOk S) (ht : zr t) (hq : zr p) (hk : zr k) (hp : ∀ σ', cKeep σ σ' → RM σ' (tSeen S t p k).1 → post (some (vZ (tSeen S t p k).2)) σ') : Mc 2 MX7_seen [vR 6 44, vZ t, vZ p, vZ k] σ post := by
  refine c_M_seen hR ho ht hq hk (fun q => ?_) (fun q e => ?_) (fun q l σ' hk hR' => ?_)
  · have e : tSeen S t p k = (S, -2) := if_neg q
    rw [e] at hp; exact hp σ cKeep.rf hR
  · have e : tSeen S t p k = (S, -4) := (if_pos q).trans (if_pos e)
    rw [e] at hp; exact hp σ cKeep.rf hR
  · have e : tSeen S t p k = (aSeenS S t p k, a_sN S + 1) := (if_pos q).trans (if_neg (by omega))
    rw [e] at hp; exact hp σ' hk hR'
theorem c_Mt_forget {S : zAb} {σ : zSt} {post : Option VV → zSt → Prop} (hR : RM σ S) (ho : aOk S) (hp : ∀ σ', cKeep σ σ' → RM σ' (tForget S).1 → post (some (vZ (tForget S).2)) σ') : Mc 0 MX7_forget [vR 6 44] σ post := c_M_forget hR ho hp
theorem aOk_sheetS {S : zAb} {s f n : Int} (ho : aOk S) (hf : 0 ≤ f ∧ f ≤ 2) (hn : 0 ≤ n ∧ n ≤ 60) : aOk (aSheetS S s f n) := by
  obtain ⟨h1, h2, h3, h4, h5⟩ := ho
  refine ⟨h1, h2, h3, h4, fun a a0 a1 => ?_⟩
  obtain ⟨q1, q2, q3, q4⟩ := h5 a a0 a1
  show (-1 ≤ fPut (a_hF S) s f a ∧ fPut (a_hF S) s f a ≤ 2) ∧ (0 ≤ fPut (a_hN S) s n a ∧ fPut (a_hN S) s n a ≤ 60) ∧ (fPut (a_hF S) s f a = -1 → fPut (a_hN S) s n a = 0) ∧ ∀ i : Int, 0 ≤ i → i < 60 → zr (if a = s then 0 else a_hI S a i)
  rw [fPut_at, fPut_at]
  by_cases z : a = s
  · rw [if_pos z, if_pos z]; exact ⟨by omega, hn, fun y => absurd y (by omega), fun i _ _ => by rw [if_pos z]; decide⟩
  · rw [if_neg z, if_neg z]; exact ⟨q1, q2, q3, fun i i0 i1 => by rw [if_neg z]; exact q4 i i0 i1⟩
theorem aOk_loseS {S : zAb} {s : Int} (ho : aOk S) : aOk (aLoseS S s) := by
  obtain ⟨h1, h2, h3, h4, h5⟩ := ho
  refine ⟨h1, h2, h3, h4, fun a a0 a1 => ?_⟩
  obtain ⟨q1, q2, q3, q4⟩ := h5 a a0 a1
  show (-1 ≤ fPut (a_hF S) s (-1) a ∧ fPut (a_hF S) s (-1) a ≤ 2) ∧ (0 ≤ fPut (a_hN S) s 0 a ∧ fPut (a_hN S) s 0 a ≤ 60) ∧ (fPut (a_hF S) s (-1) a = -1 → fPut (a_hN S) s 0 a = 0) ∧ ∀ i : Int, 0 ≤ i → i < 60 → zr (a_hI S a i)
  rw [fPut_at, fPut_at]
  by_cases z : a = s
  · rw [if_pos z, if_pos z]; exact ⟨by decide, by decide, fun _ => rfl, q4⟩
  · rw [if_neg z, if_neg z]; exact ⟨q1, q2, q3, q4⟩
theorem aOk_copyS {S : zAb} {s i t j n : Int} (ho : aOk S) (s0 : 0 ≤ s) (s1 : s < 4) (i0 : 0 ≤ i) (hi : i + n ≤ 60) : aOk (aCopyS S s i t j n) := by
  obtain ⟨h1, h2, h3, h4, h5⟩ := ho
  refine ⟨h1, h2, h3, h4, fun a a0 a1 => ?_⟩
  obtain ⟨q1, q2, q3, q4⟩ := h5 a a0 a1
  refine ⟨q1, q2, q3, fun q qa qb => ?_⟩
  show zr (if a = t ∧ j ≤ q ∧ q < j + n then a_hI S s (i + q - j) else a_hI S a q)
  by_cases z : a = t ∧ j ≤ q ∧ q < j + n
  · rw [if_pos z]; exact (h5 s s0 s1).2.2.2 _ (by omega) (by omega)
  · rw [if_neg z]; exact q4 q qa qb
theorem aOk_writeS {S : zAb} {t s n : Int} (ho : aOk S) : aOk (aWriteS S t s n) := by
  have hok := aC_ok ho
  obtain ⟨h1, h2, h3, h4, h5⟩ := ho
  refine ⟨h1, h2, h3, h4, fun a a0 a1 => ?_⟩
  obtain ⟨q1, q2, q3, q4⟩ := h5 a a0 a1
  refine ⟨q1, q2, q3, fun q qa qb => ?_⟩
  show zr (if a = s ∧ 0 ≤ q ∧ q < n then zCut (a_hF S s) (zWho (aC S) t q) else a_hI S a q)
  have hw := zWho_rng hok t qa
  split
  · exact zCut_r (by omega)
  · exact q4 q qa qb
theorem tOk_type {S : zAb} {x v : Int} (ho : aOk S) : aOk (tType S x v).1 := by
  have h1 := ho.1
  have h2 := ho.2.1
  unfold tType
  by_cases q : (0 ≤ x ∧ x ≤ 1) ∧ 0 ≤ v ∧ v ≤ 255
  · rw [if_pos q]
    by_cases e : aTyp S x = (if x = 0 then 47 else 24)
    · rw [if_pos e]; exact ho
    · rw [if_neg e]
      refine aOk_type ho q.1 q.2 ?_
      unfold aTyp at e ⊢
      split <;> rename_i z
      · rw [if_pos z, if_pos z] at e; omega
      · rw [if_neg z, if_neg z] at e; omega
  · rw [if_neg q]; exact ho
theorem aTyp_r {S : zAb} {x : Int} (ho : aOk S) : 0 ≤ aTyp S x := by unfold aTyp; split; exact ho.1.1; exact ho.2.1.1
theorem tOk_wipe {S : zAb} {x : Int} (ho : aOk S) : aOk (tWipe S x).1 := by
  unfold tWipe
  split
  · exact aOk_sz ho (by omega) (aTyp_r ho)
  · exact ho
theorem tOk_undo {S : zAb} {x : Int} (ho : aOk S) : aOk (tUndo S x).1 := by
  have h := aTyp_r (x := x) ho
  unfold tUndo
  split
  · by_cases e : aTyp S x = 0
    · rw [if_pos e]; exact ho
    · rw [if_neg e]; exact aOk_sz ho (by omega) (by omega)
  · exact ho
theorem tOk_event {S : zAb} {k t p : Int} (ho : aOk S) : aOk (tEvent S k t p).1 := by
  have h := ho.2.2.1
  unfold tEvent
  by_cases q : (0 ≤ k ∧ k ≤ 2) ∧ (0 ≤ t ∧ t ≤ 23) ∧ 0 ≤ p ∧ p ≤ 11
  · rw [if_pos q]
    by_cases e : a_eN S = 8
    · rw [if_pos e]; exact ho
    · rw [if_neg e]; exact aOk_event ho q (by omega)
  · rw [if_neg q]; exact ho
theorem tOk_back {S : zAb} (ho : aOk S) : aOk (tBack S).1 := by
  have h := ho.2.2.1
  unfold tBack
  by_cases e : a_eN S = 0
  · rw [if_pos e]; exact ho
  · rw [if_neg e]; exact aOk_back ho (by omega)
theorem tOk_seen {S : zAb} {t p k : Int} (ho : aOk S) : aOk (tSeen S t p k).1 := by
  have h := ho.2.2.2.1
  unfold tSeen
  by_cases q : (0 ≤ t ∧ t ≤ 23) ∧ (0 ≤ p ∧ p ≤ 11) ∧ 0 ≤ k ∧ k ≤ 12
  · rw [if_pos q]
    by_cases e : a_sN S = 8
    · rw [if_pos e]; exact ho
    · rw [if_neg e]; exact aOk_seen ho q (by omega)
  · rw [if_neg q]; exact ho
theorem tOk_sheet {S : zAb} {s f n : Int} (ho : aOk S) : aOk (tSheet S s f n).1 := by
  unfold tSheet
  by_cases q : ((0 ≤ s ∧ s ≤ 3) ∧ 0 ≤ f ∧ f ≤ 2) ∧ n ≤ 60
  · rw [if_pos q]
    by_cases e : n < 0
    · rw [if_pos e]; exact ho
    · rw [if_neg e]; exact aOk_sheetS ho q.1.2 (by omega)
  · rw [if_neg q]; exact ho
theorem tOk_lose {S : zAb} {s : Int} (ho : aOk S) : aOk (tLose S s).1 := by
  unfold tLose
  split
  · split
    · exact ho
    · exact aOk_loseS ho
  · exact ho
theorem tOk_put {S : zAb} {s f i v : Int} (ho : aOk S) (hv : zr v) : aOk (tPut S s f i v).1 := by
  unfold tPut
  split
  · split
    · exact aOk_item ho (zCut_r hv)
    · exact ho
  · exact ho
theorem tOk_get {S : zAb} {s f i : Int} (ho : aOk S) : aOk (tGet S s f i).1 := by
  unfold tGet
  split
  · split <;> exact ho
  · exact ho
theorem tOk_copy {S : zAb} {s i t j n : Int} (ho : aOk S) : aOk (tCopy S s i t j n).1 := by
  unfold tCopy
  by_cases q : (0 ≤ s ∧ s ≤ 3) ∧ 0 ≤ t ∧ t ≤ 3
  · have h := (ho.2.2.2.2 s q.1.1 (by omega)).2.1
    rw [if_pos q]
    split
    · exact ho
    · split
      · exact ho
      · split
        · rename_i z; exact aOk_copyS ho q.1.1 (by omega) z.1.1 (by omega)
        · exact ho
  · rw [if_neg q]; exact ho
theorem tOk_write {S : zAb} {t s : Int} (ho : aOk S) : aOk (tWrite S t s).1 := by
  unfold tWrite
  split
  · split
    · exact ho
    · exact aOk_writeS ho
  · exact ho
theorem zRdN_ok {S : zAb} {s : Int} : ∀ (m : Nat) (n : Int) (T : zAb), aOk T → aOk (zRdN S s m n T).1
  | 0, _, _, h => h
  | m + 1, n, T, h => by
    unfold zRdN
    split
    · rename_i q; exact zRdN_ok m (n + 1) _ (aOk_event h q.2.1 q.2.2)
    · exact h
theorem tOk_read {S : zAb} {s : Int} (ho : aOk S) : aOk (tRead S s).1 := by
  unfold tRead
  split
  · split
    · exact ho
    · exact zRdN_ok 20 0 S ho
  · exact ho
theorem RC_low {σ σ' : zSt} {S : zAb} (h : ∀ a : Nat, a < 44 → σ'.1 a = σ.1 a ∧ σ'.2 a = σ.2 a) (hR : RC σ S) : RC σ' S := by
  obtain ⟨h1, h2, h3, h4, h5, h6, h7⟩ := hR
  exact ⟨RT_c (h 1 (by omega)).1 (h 2 (by omega)).1 (h 3 (by omega)).1 (h 4 (by omega)).1 h1, zPx_cong (fun k a b => (h k (by omega)).1) (h 5 (by omega)).2 h2, zCo_cong (by rw [(h 23 (by omega)).1]) (h 24 (by omega)).2 (h 25 (by omega)).2 (h 23 (by omega)).2 h3, RG_c (h 29 (by omega)).1 (h 30 (by omega)).1 (h 31 (by omega)).1 (h 32 (by omega)).1 h4, RS_c (fun a x y => (h a (by omega)).1) h5, RK_c (by rw [(h 0 (by omega)).1]) (h 43 (by omega)).1 h6, by rw [(h 0 (by omega)).1]; exact h7⟩
theorem RM_high {σ σ' : zSt} {S : zAb} (h : ∀ a : Nat, 44 ≤ a → σ'.1 a = σ.1 a) (hR : RM σ S) : RM σ' S := by
  unfold RM at hR ⊢
  rw [h 44 (by omega), h 45 (by omega), h 46 (by omega), h 51 (by omega), h 52 (by omega), h 53 (by omega), h 66 (by omega), h 67 (by omega), h 68 (by omega), h 70 (by omega), h 71 (by omega), h 72 (by omega), h 73 (by omega)]
  exact hR
