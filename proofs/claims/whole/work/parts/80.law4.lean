theorem va_P_last {D : va_G} {cl : List vw_C} {A : va_W} {x : Nat × va_E} {H : Heap} (h : va_P D cl (A ++ [x]) H) : va_P D cl [x] H := fun k q hq => by
  match k, hq with
  | 0, hq => cases hq; exact h A.length x (by simp)
  | k + 1, hq => simp at hq
theorem va_D_last {B : Nat → Prop} {A : va_W} {x : Nat × va_E} (h : va_D B (A ++ [x])) : va_D B [x] := ⟨fun i j p q hi hj _ => by
  match i, j, hi, hj with
  | 0, 0, _, _ => rfl
  | i + 1, _, hi, _ => simp at hi
  | 0, j + 1, _, hj => simp at hj, fun k q hq => by
  match k, hq with
  | 0, hq => cases hq; exact h.2 A.length x (by simp)
  | k + 1, hq => simp at hq⟩
theorem va_cut {A : va_W} {x : Nat × va_E} {n : Nat} (h : A.length = n) : [n].map (fun i => (A ++ [x])[i]?) = [x].map some := by
  subst h; simp
theorem va_rest {A : va_W} {x : Nat × va_E} {n : Nat} (h : A.length = n) : (List.range n).map (fun i => (A ++ [x])[i]?) = A.map some := by
  subst h
  refine List.ext_getElem? (fun k => ?_)
  rw [List.getElem?_map, List.getElem?_map]
  by_cases hk : k < A.length
  · rw [List.getElem?_range hk]
    show some ((A ++ [x])[k]?) = _
    rw [List.getElem?_append_left hk, List.getElem?_eq_getElem hk]; rfl
  · rw [List.getElem?_eq_none (by rw [List.length_range]; omega), List.getElem?_eq_none (by omega)]; rfl
theorem RM_0 {y : Nat → Int → Int64} : RM (fun _ _ => 0, y) aS0 := ⟨⟨rfl, fun i a b => absurd b (by show ¬ i < 0; omega)⟩, ⟨rfl, fun i a b => absurd b (by show ¬ i < 0; omega)⟩, ⟨rfl, fun i a b => absurd b (by show ¬ i < 0; omega)⟩, ⟨rfl, fun i a b => absurd b (by show ¬ i < 0; omega)⟩, fun s _ _ => ⟨rfl, fun z => absurd rfl z⟩, rfl⟩
/-- what the tables say at the law's entry: the classes, the rows' classes, the words of the nest -/
theorem lw_K0 {p : Program} {s : State} {m : MethodId} {meth : Method} {c : Code} {b L : Nat} {xs : Nat → Int32} (C0 : lw_At p s m meth c b L xs) : ∃ (D : va_G) (tc : Nat → ClassId), va_K D vwCl (tys3 tc) s ∧ zNW s := by
  obtain ⟨hx, hb, hr, hml, hown, hts, hX, hbl, hlocks, hgv⟩ := C0
  have hz : ∀ w ∈ z_tbl, w.before #[Value.ref b] s = true := fun w hw => hts w (List.mem_filter.mp hw).1
  obtain ⟨a0, k0, p0, f0, g0, e0⟩ := Cond.arrayClass_spec (hts (Cond.arrayClass .int) (List.mem_of_getElem? (i := 114) (by decide +kernel)))
  obtain ⟨a1, k1, p1, f1, g1, e1⟩ := Cond.arrayClass_spec (hts (Cond.arrayClass .long) (List.mem_of_getElem? (i := 177) (by decide +kernel)))
  obtain ⟨a2, k2, p2, f2, g2, e2⟩ := Cond.arrayClass_spec (hts (Cond.arrayClass .boolean) (List.mem_of_getElem? (i := 970) (by decide +kernel)))
  obtain ⟨c0, i0, K0⟩ := u_known (C := RX0) (T := TX0) (N := 5) (n := 5) hz z_ws0 (hts _ (List.mem_of_getElem? (i := 156) (by decide +kernel)))
  obtain ⟨c1, i1, K1⟩ := u_known (C := RX2) (T := TX2) (N := 11) (n := 11) hz z_ws2 (hts _ (List.mem_of_getElem? (i := 116) (by decide +kernel)))
  obtain ⟨c2, i2, K2⟩ := u_known (C := RX3) (T := TX3) (N := 3) (n := 3) hz z_ws3 (hts _ (List.mem_of_getElem? (i := 199) (by decide +kernel)))
  obtain ⟨c3, i3, K3⟩ := u_known (C := RX4) (T := TX4) (N := 4) (n := 4) hz z_ws4 (hts _ (List.mem_of_getElem? (i := 179) (by decide +kernel)))
  obtain ⟨c4, i4, K4⟩ := u_known (C := RX5) (T := TX5) (N := 3) (n := 3) hz z_ws5 (hts _ (List.mem_of_getElem? (i := 96) (by decide +kernel)))
  obtain ⟨c5, i5, K5⟩ := u_known (C := RX6) (T := TX6) (N := 12) (n := 12) hz z_ws6 (hts _ (List.mem_of_getElem? (i := 88) (by decide +kernel)))
  obtain ⟨c6, i6, K6⟩ := u_known (C := RX7) (T := TX7) (N := 40) (n := 40) hz z_ws7 (hts _ (List.mem_of_getElem? (i := 844) (by decide +kernel)))
  refine ⟨(fun k => if k = 0 then c0 else if k = 1 then c1 else if k = 2 then c2 else if k = 3 then c3 else if k = 4 then c4 else if k = 5 then c5 else c6, fun k => if k = 0 then i0 else if k = 1 then i1 else if k = 2 then i2 else if k = 3 then i3 else if k = 4 then i4 else if k = 5 then i5 else i6), fun k => if k = 0 then a0 else if k = 1 then a1 else a2, ⟨?_, ?_⟩, ?_⟩
  · intro k q hq
    match k, hq with
    | 0, hq => cases hq; exact K0
    | 1, hq => cases hq; exact K1
    | 2, hq => cases hq; exact K2
    | 3, hq => cases hq; exact K3
    | 4, hq => cases hq; exact K4
    | 5, hq => cases hq; exact K5
    | 6, hq => cases hq; exact K6
    | k + 7, hq => simp [vwCl] at hq
  · intro k q hq
    match k, hq with
    | 0, hq => cases hq; exact ⟨fun N z => ⟨(fun k h => by cases h), k0, g0, p0, e0⟩, f0⟩
    | 1, hq => cases hq; exact ⟨fun N z => ⟨(fun k h => by cases h), k1, g1, p1, e1⟩, f1⟩
    | 2, hq => cases hq; exact ⟨fun N z => ⟨(fun k h => by cases h), k2, g2, p2, e2⟩, f2⟩
    | k + 3, hq => simp at hq
  · exact ⟨va_Nw.of rfl (hts _ (List.mem_of_getElem? (i := 117) (by decide +kernel))), va_Nw.of rfl (hts _ (List.mem_of_getElem? (i := 157) (by decide +kernel))), va_Nw.of rfl (hts _ (List.mem_of_getElem? (i := 180) (by decide +kernel))), va_Nw.of rfl (hts _ (List.mem_of_getElem? (i := 200) (by decide +kernel))), va_AO.of (hts _ (List.mem_of_getElem? (i := 198) (by decide +kernel)))⟩
