/-! fields and constants by their numbers in the own class (a number) -/
def zgl : Nat → List (Nat × Nat × Nat)
  | 0 => [(9, 0, 0), (15, 0, 1), (24, 0, 2), (27, 0, 3), (35, 0, 4)]
  | 2 => [(9, 1, 1), (15, 1, 2), (18, 1, 4), (21, 1, 6), (24, 1, 7), (27, 1, 8), (30, 1, 9), (33, 1, 10), (36, 1, 3), (52, 1, 0), (76, 1, 5)]
  | 3 => [(9, 2, 0), (15, 2, 1), (19, 2, 2)]
  | 4 => [(9, 3, 0), (15, 3, 1), (18, 3, 2), (21, 3, 3)]
  | 5 => [(9, 4, 0), (21, 4, 1), (25, 4, 2)]
  | 6 => [(14, 5, 0), (18, 5, 1), (24, 5, 2), (31, 5, 3), (35, 5, 4), (38, 5, 5), (44, 5, 6), (50, 5, 7), (54, 5, 8), (58, 5, 9), (283, 5, 11), (343, 5, 10)]
  | 7 => [(7, 6, 0), (13, 6, 1), (16, 6, 3), (19, 6, 4), (22, 6, 5), (25, 6, 7), (28, 6, 9), (31, 6, 10), (34, 6, 11), (37, 6, 13), (40, 6, 14), (43, 6, 15), (46, 6, 20), (49, 6, 21), (52, 6, 22), (55, 6, 23), (58, 6, 24), (61, 6, 25), (64, 6, 26), (67, 6, 27), (70, 6, 28), (73, 6, 30), (76, 6, 31), (79, 6, 32), (82, 6, 33), (86, 6, 34), (90, 6, 35), (93, 6, 36), (96, 6, 37), (99, 6, 38), (119, 6, 2), (127, 6, 6), (161, 6, 8), (174, 6, 12), (177, 6, 16), (180, 6, 17), (183, 6, 18), (186, 6, 19), (276, 6, 29), (316, 6, 39)]
  | _ => []
def zll : Nat → List (Nat × Int64)
  | 1 => [(9, 15), (11, -1)]
  | 6 => [(229, -9223372036854775806), (287, 17), (374, 2), (377, 31)]
  | 7 => [(102, -9223372036854775808), (286, 16), (330, 31), (336, 17)]
  | _ => []
def zil : Nat → List (Nat × Int)
  | 6 => [(266, -2147483648), (376, 1103515245)]
  | 7 => [(312, 1103515245), (326, -2147483648)]
  | 8 => [(265, 1431655765), (266, 858993459), (267, 252645135)]
  | _ => []
def zgi {α : Type} (i : Nat) : List (Nat × α) → Option α
  | [] => none
  | q :: t => bif Nat.beq i q.1 then some q.2 else zgi i t
theorem zgi_mem {α : Type} {i : Nat} {x : α} : ∀ {l : List (Nat × α)}, zgi i l = some x → (i, x) ∈ l
  | [], h => by cases h
  | q :: t, h => by
    unfold zgi at h
    cases hb : Nat.beq i q.1 with
    | true =>
      rw [hb] at h
      have e : i = q.1 := Nat.eq_of_beq_eq_true hb
      have h : some q.2 = some x := h
      cases h
      rw [e]
      exact List.mem_cons_self
    | false =>
      rw [hb] at h
      exact List.mem_cons_of_mem _ (zgi_mem h)
def zgchk (w : Nat) (e : Nat × Nat × Nat) : Bool := match vwCl[e.2.1]? with
  | some (C, T, N) => Nat.blt e.2.2 N && decide (Cond.fieldLink (zown w) e.1 (T e.2.2).1 (T e.2.2).2.1 (T e.2.2).2.2.1 ∈ z_tbl)
  | none => false
theorem zgl_ok0 : (zgl 0).all (zgchk 0) = true := by decide +kernel
theorem zgl_ok2 : (zgl 2).all (zgchk 2) = true := by decide +kernel
theorem zgl_ok3 : (zgl 3).all (zgchk 3) = true := by decide +kernel
theorem zgl_ok4 : (zgl 4).all (zgchk 4) = true := by decide +kernel
theorem zgl_ok5 : (zgl 5).all (zgchk 5) = true := by decide +kernel
theorem zgl_ok6 : (zgl 6).all (zgchk 6) = true := by decide +kernel
theorem zgl_ok7 : (zgl 7).all (zgchk 7) = true := by decide +kernel
theorem zgl_ok {w i ci j : Nat} (h : zgi i (zgl w) = some (ci, j)) : ∃ C T N, vwCl[ci]? = some (C, T, N) ∧ j < N ∧ Cond.fieldLink (zown w) i (T j).1 (T j).2.1 (T j).2.2.1 ∈ z_tbl := by
  have hm := zgi_mem h
  have key : zgchk w (i, ci, j) = true := by
    match w, hm with
    | 0, hm => exact List.all_eq_true.mp zgl_ok0 _ hm
    | 2, hm => exact List.all_eq_true.mp zgl_ok2 _ hm
    | 3, hm => exact List.all_eq_true.mp zgl_ok3 _ hm
    | 4, hm => exact List.all_eq_true.mp zgl_ok4 _ hm
    | 5, hm => exact List.all_eq_true.mp zgl_ok5 _ hm
    | 6, hm => exact List.all_eq_true.mp zgl_ok6 _ hm
    | 7, hm => exact List.all_eq_true.mp zgl_ok7 _ hm
    | 1, hm => exact absurd hm List.not_mem_nil
    | n + 8, hm => exact absurd hm List.not_mem_nil
  unfold zgchk at key
  split at key
  · rename_i C T N hq
    rw [Bool.and_eq_true, decide_eq_true_eq] at key
    exact ⟨C, T, N, hq, Nat.blt_eq.mp key.1, key.2⟩
  · cases key
def zpty : Nat × Nat → FieldType → Bool
  | (0, 0), .int => true
  | (0, 1), .boolean => true
  | (0, 2), .boolean => true
  | (1, _), .long => true
  | (_ + 2, _), _ => true
  | _, _ => false
def zfchk (ci : Nat) : Bool := match vwCl[ci]? with
  | some (_, T, N) => Nat.beq (zfk ci).length N && (List.range N).all (fun j => match (zfk ci)[j]?, parseFieldDescriptor (T j).2.2.1 with
    | some q, some ty => zpty q ty && (match q with
      | (0, 2) => true
      | (0, _) => !(T j).2.2.2
      | (1, _) => !(T j).2.2.2
      | _ => true)
    | _, _ => false)
  | none => true
theorem zfchk_ok : (List.range 8).all zfchk = true := by decide +kernel
theorem zcl_ok {ci : Nat} {C : String} {T : u_T} {N : Nat} (h : vwCl[ci]? = some (C, T, N)) : ci < 8 ∧ (∀ w ∈ u_ws C T N, w ∈ z_tbl) ∧ (∃ ty0 : Nat → FieldType, ∀ k, k < N → parseFieldDescriptor (T k).2.2.1 = some (ty0 k)) ∧ (∀ a, a < N → ∀ b, b < N → a ≠ b → (T a).2.1 ≠ (T b).2.1) ∧ (zfk ci).length = N ∧ ∀ j x y, (zfk ci)[j]? = some (x, y) → ∃ ty, parseFieldDescriptor (T j).2.2.1 = some ty ∧ zpty (x, y) ty = true ∧ ((x = 0 ∧ y ≠ 2) ∨ x = 1 → (T j).2.2.2 = false) := by
  have hc : ci < 8 := by
    have := (List.getElem?_eq_some_iff.mp h).1
    simp [vwCl] at this
    omega
  have hz : zfchk ci = true := List.all_eq_true.mp zfchk_ok ci (List.mem_range.mpr hc)
  unfold zfchk at hz
  rw [h] at hz
  simp only [Bool.and_eq_true] at hz
  obtain ⟨hz1, hz2⟩ := hz
  have hlen : (zfk ci).length = N := Nat.eq_of_beq_eq_true hz1
  refine ⟨hc, ?_, ?_, ?_, hlen, ?_⟩
  · match ci, h with
    | 0, h => cases h; exact z_ws0
    | 1, h => cases h; exact z_ws2
    | 2, h => cases h; exact z_ws3
    | 3, h => cases h; exact z_ws4
    | 4, h => cases h; exact z_ws5
    | 5, h => cases h; exact z_ws6
    | 6, h => cases h; exact z_ws7
    | n + 7, h => simp [vwCl] at h
  · match ci, h with
    | 0, h => cases h; exact ⟨_, tyX0_ok⟩
    | 1, h => cases h; exact ⟨_, tyX2_ok⟩
    | 2, h => cases h; exact ⟨_, tyX3_ok⟩
    | 3, h => cases h; exact ⟨_, tyX4_ok⟩
    | 4, h => cases h; exact ⟨_, tyX5_ok⟩
    | 5, h => cases h; exact ⟨_, tyX6_ok⟩
    | 6, h => cases h; exact ⟨_, tyX7_ok⟩
    | n + 7, h => simp [vwCl] at h
  · match ci, h with
    | 0, h => cases h; exact nmX0
    | 1, h => cases h; exact nmX2
    | 2, h => cases h; exact nmX3
    | 3, h => cases h; exact nmX4
    | 4, h => cases h; exact nmX5
    | 5, h => cases h; exact nmX6
    | 6, h => cases h; exact nmX7
    | n + 7, h => simp [vwCl] at h
  · intro j x y hj
    have hjN : j < N := by rw [← hlen]; exact (List.getElem?_eq_some_iff.mp hj).1
    have h1 := List.all_eq_true.mp hz2 j (List.mem_range.mpr hjN)
    rw [hj] at h1
    cases hp : parseFieldDescriptor (T j).2.2.1 with
    | none => rw [hp] at h1; cases h1
    | some ty =>
      rw [hp] at h1
      simp only [Bool.and_eq_true] at h1
      refine ⟨ty, rfl, h1.1, fun hx => ?_⟩
      have h2 := h1.2
      rcases hx with ⟨rfl, hy⟩ | rfl
      · match y, hy, h2 with
        | 0, _, h2 => simpa using h2
        | 1, _, h2 => simpa using h2
        | n + 3, _, h2 => simpa using h2
      · simpa using h2
def zllchk (w : Nat) (e : Nat × Int64) : Bool := decide (Cond.constantLong (zown w) e.1 e.2 ∈ z_tbl)
theorem zll_ok1 : (zll 1).all (zllchk 1) = true := by decide +kernel
theorem zll_ok6 : (zll 6).all (zllchk 6) = true := by decide +kernel
theorem zll_ok7 : (zll 7).all (zllchk 7) = true := by decide +kernel
theorem zll_ok {w i : Nat} {v : Int64} (h : zgi i (zll w) = some v) : Cond.constantLong (zown w) i v ∈ z_tbl := by
  have hm := zgi_mem h
  have key : zllchk w (i, v) = true := by
    match w, hm with
    | 0, hm => exact absurd hm List.not_mem_nil
    | 1, hm => exact List.all_eq_true.mp zll_ok1 _ hm
    | 2, hm => exact absurd hm List.not_mem_nil
    | 3, hm => exact absurd hm List.not_mem_nil
    | 4, hm => exact absurd hm List.not_mem_nil
    | 5, hm => exact absurd hm List.not_mem_nil
    | 6, hm => exact List.all_eq_true.mp zll_ok6 _ hm
    | 7, hm => exact List.all_eq_true.mp zll_ok7 _ hm
    | 8, hm => exact absurd hm List.not_mem_nil
    | n + 9, hm => exact absurd hm List.not_mem_nil
  exact of_decide_eq_true key
def zilchk (w : Nat) (e : Nat × Int) : Bool := decide (Cond.constant (zown w) e.1 (Int32.ofInt e.2) ∈ z_tbl)
theorem zil_ok6 : (zil 6).all (zilchk 6) = true := by decide +kernel
theorem zil_ok7 : (zil 7).all (zilchk 7) = true := by decide +kernel
theorem zil_ok8 : (zil 8).all (zilchk 8) = true := by decide +kernel
theorem zil_ok {w i : Nat} {v : Int} (h : zgi i (zil w) = some v) : Cond.constant (zown w) i (Int32.ofInt v) ∈ z_tbl := by
  have hm := zgi_mem h
  have key : zilchk w (i, v) = true := by
    match w, hm with
    | 0, hm => exact absurd hm List.not_mem_nil
    | 1, hm => exact absurd hm List.not_mem_nil
    | 2, hm => exact absurd hm List.not_mem_nil
    | 3, hm => exact absurd hm List.not_mem_nil
    | 4, hm => exact absurd hm List.not_mem_nil
    | 5, hm => exact absurd hm List.not_mem_nil
    | 6, hm => exact List.all_eq_true.mp zil_ok6 _ hm
    | 7, hm => exact List.all_eq_true.mp zil_ok7 _ hm
    | 8, hm => exact List.all_eq_true.mp zil_ok8 _ hm
    | n + 9, hm => exact absurd hm List.not_mem_nil
  exact of_decide_eq_true key
/-! a world's references lead to cells of the kind that is said -/
theorem z_closedB : (List.range 75).all (fun k => (zfk (shG k)).all (fun q => Nat.blt q.1 2 || (Nat.blt (k + (q.1 - 2)) 75 && ((!Nat.blt k 44) || Nat.blt (k + (q.1 - 2)) 44) && Nat.beq (shG (k + (q.1 - 2))) q.2))) = true := by decide +kernel
theorem z_closed {G : zFD} (hG : G.2.1 = 44 ∨ G.2.1 = 75) {k ci j n c : Nat} (hk : k < G.2.1) (hs : shG k = ci) (hj : (zfk ci)[j]? = some (n + 2, c)) : k + n < G.2.1 ∧ shG (k + n) = c := by
  subst hs
  have hk75 : k < 75 := by omega
  have h1 := List.all_eq_true.mp z_closedB k (List.mem_range.mpr hk75)
  have h2 := List.all_eq_true.mp h1 _ (List.mem_of_getElem? hj)
  have e1 : Nat.blt (n + 2) 2 = false := by
    cases hq : Nat.blt (n + 2) 2 with
    | false => rfl
    | true => have := Nat.blt_eq.mp hq; omega
  simp only [e1, Bool.false_or, Bool.and_eq_true, Nat.add_sub_cancel] at h2
  obtain ⟨⟨h3, h4⟩, h5⟩ := h2
  have h6 : shG (k + n) = c := Nat.eq_of_beq_eq_true h5
  have h7 : k + n < 75 := Nat.blt_eq.mp h3
  refine ⟨?_, h6⟩
  rcases hG with e | e
  · rw [e] at hk ⊢
    rcases Bool.or_eq_true_iff.mp h4 with h8 | h8
    · rw [Nat.blt_eq.mpr hk] at h8; cases h8
    · exact Nat.blt_eq.mp h8
  · rw [e]; exact h7
theorem z_k11B : (List.range 75).all (fun k => (!Nat.beq (shG k) 11) || Nat.beq k 33) = true := by decide +kernel
theorem z_k11 {G : zFD} (hG : G.2.1 = 44 ∨ G.2.1 = 75) {k : Nat} (hk : k < G.2.1) (hs : shG k = 11) : k = 33 := by
  have hk75 : k < 75 := by omega
  have h1 := List.all_eq_true.mp z_k11B k (List.mem_range.mpr hk75)
  rw [hs] at h1
  exact Nat.eq_of_beq_eq_true (by simpa using h1)
theorem z_lenB : (List.range 75).all (fun k => decide (0 ≤ zlen k ∧ zlen k < 2000)) = true := by decide +kernel
theorem z_len {G : zFD} (hG : G.2.1 = 44 ∨ G.2.1 = 75) {k : Nat} (hk : k < G.2.1) : 0 ≤ zlen k ∧ zlen k < 2000 := by
  have hk75 : k < 75 := by omega
  exact of_decide_eq_true (List.all_eq_true.mp z_lenB k (List.mem_range.mpr hk75))

