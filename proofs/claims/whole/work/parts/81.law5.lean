/-- the cells, the class's as they were, the reference's behind them -/
def lwA (ad g : Nat → Nat) (k : Nat) : Nat := bif Nat.blt k 44 then ad k else g k
def lwS (σ : zSt) : zSt := (fun k j => bif Nat.blt k 44 then σ.1 k j else 0, fun k j => bif Nat.blt k 44 then σ.2 k j else 0)
def lwF (tcx : Nat → ClassId) (σ : zSt) (ad g : Nat → Nat) (k : Nat) : Nat × va_E := (lwA ad g k, zce (lwA ad g) tcx (lwS σ) k (shG k))
theorem lw_lo {tcx : Nat → ClassId} {σ : zSt} {ad g : Nat → Nat} {k : Nat} (hk : k < 44) (hn : k ≠ 33) : lwF tcx σ ad g k = (ad k, zce ad tcx σ k (shG k)) := by
  rcases (show k = 0 ∨ k = 1 ∨ k = 2 ∨ k = 3 ∨ k = 4 ∨ k = 5 ∨ k = 6 ∨ k = 7 ∨ k = 8 ∨ k = 9 ∨ k = 10 ∨ k = 11 ∨ k = 12 ∨ k = 13 ∨ k = 14 ∨ k = 15 ∨ k = 16 ∨ k = 17 ∨ k = 18 ∨ k = 19 ∨ k = 20 ∨ k = 21 ∨ k = 22 ∨ k = 23 ∨ k = 24 ∨ k = 25 ∨ k = 26 ∨ k = 27 ∨ k = 28 ∨ k = 29 ∨ k = 30 ∨ k = 31 ∨ k = 32 ∨ k = 33 ∨ k = 34 ∨ k = 35 ∨ k = 36 ∨ k = 37 ∨ k = 38 ∨ k = 39 ∨ k = 40 ∨ k = 41 ∨ k = 42 ∨ k = 43 by omega) with rfl | rfl | rfl | rfl | rfl | rfl | rfl | rfl | rfl | rfl | rfl | rfl | rfl | rfl | rfl | rfl | rfl | rfl | rfl | rfl | rfl | rfl | rfl | rfl | rfl | rfl | rfl | rfl | rfl | rfl | rfl | rfl | rfl | rfl | rfl | rfl | rfl | rfl | rfl | rfl | rfl | rfl | rfl | rfl
  · rfl
  · rfl
  · rfl
  · rfl
  · rfl
  · rfl
  · rfl
  · rfl
  · rfl
  · rfl
  · rfl
  · rfl
  · rfl
  · rfl
  · rfl
  · rfl
  · rfl
  · rfl
  · rfl
  · rfl
  · rfl
  · rfl
  · rfl
  · rfl
  · rfl
  · rfl
  · rfl
  · rfl
  · rfl
  · rfl
  · rfl
  · rfl
  · rfl
  · exact absurd rfl hn
  · rfl
  · rfl
  · rfl
  · rfl
  · rfl
  · rfl
  · rfl
  · rfl
  · rfl
  · rfl
theorem lw_loS {tcx : Nat → ClassId} {σ : zSt} {ad g : Nat → Nat} : (List.range 44).map (lwF tcx σ ad g) = List.set ((List.range 44).map (fun k => ((ad k, zce ad tcx σ k (shG k)) : Nat × va_E))) 33 (ad 33, .inl (tcx 3, 4, .inr (.inr (.inr (.inr (fun j => some (lwA ad g (33 + 1 + 2 * j)))))))) := by
  apply List.ext_getElem?
  intro i
  by_cases h : i < 44
  · rw [List.getElem?_map, List.getElem?_range h]
    by_cases z : i = 33
    · subst z
      rw [List.getElem?_set_self (by rw [List.length_map, List.length_range]; omega)]; rfl
    · rw [List.getElem?_set_ne (Ne.symm z), List.getElem?_map, List.getElem?_range h]
      exact congrArg some (lw_lo h z)
  · rw [List.getElem?_eq_none (by rw [List.length_map, List.length_range]; omega), List.getElem?_eq_none (by rw [List.length_set, List.length_map, List.length_range]; omega)]
theorem lw_mi {f : Nat → Nat × Nat → Value} : (zfk 6).mapIdx f = [f 0 (3, 8), f 1 (4, 8), f 2 (0, 0), f 3 (5, 8), f 4 (6, 8), f 5 (7, 8), f 6 (0, 0), f 7 (8, 8), f 8 (0, 0), f 9 (9, 8), f 10 (10, 8), f 11 (11, 8), f 12 (0, 0), f 13 (12, 8), f 14 (13, 8), f 15 (14, 8), f 16 (0, 0), f 17 (0, 0), f 18 (0, 0), f 19 (0, 0), f 20 (15, 8), f 21 (16, 8), f 22 (17, 8), f 23 (18, 8), f 24 (19, 8), f 25 (20, 8), f 26 (21, 8), f 27 (22, 8), f 28 (23, 8), f 29 (0, 0), f 30 (24, 8), f 31 (25, 8), f 32 (26, 8), f 33 (27, 9), f 34 (28, 10), f 35 (29, 8), f 36 (30, 8), f 37 (31, 8), f 38 (32, 8), f 39 (0, 0)] := by
  show List.mapIdx f [(3, 8), (4, 8), (0, 0), (5, 8), (6, 8), (7, 8), (0, 0), (8, 8), (0, 0), (9, 8), (10, 8), (11, 8), (0, 0), (12, 8), (13, 8), (14, 8), (0, 0), (0, 0), (0, 0), (0, 0), (15, 8), (16, 8), (17, 8), (18, 8), (19, 8), (20, 8), (21, 8), (22, 8), (23, 8), (0, 0), (24, 8), (25, 8), (26, 8), (27, 9), (28, 10), (29, 8), (30, 8), (31, 8), (32, 8), (0, 0)] = _
  simp only [List.mapIdx_cons, List.mapIdx_nil]
theorem lw_g44 {tcx : Nat → ClassId} {σ : zSt} {ad g : Nat → Nat} : lwF tcx σ ad g 44 = ((g 44), .inr (6, [.ref (g 45), .ref (g 46), .int 0, .ref (g 47), .ref (g 48), .ref (g 49), .int 0, .ref (g 50), .int 0, .ref (g 51), .ref (g 52), .ref (g 53), .int 0, .ref (g 54), .ref (g 55), .ref (g 56), .int 0, .int 0, .int 0, .int 0, .ref (g 57), .ref (g 58), .ref (g 59), .ref (g 60), .ref (g 61), .ref (g 62), .ref (g 63), .ref (g 64), .ref (g 65), .int 0, .ref (g 66), .ref (g 67), .ref (g 68), .ref (g 69), .ref (g 70), .ref (g 71), .ref (g 72), .ref (g 73), .ref (g 74), .int 0])) := by
  show ((g 44, .inr (6, (zfk 6).mapIdx (fun j q => zcf (lwA ad g) (lwS σ) 44 j q))) : Nat × va_E) = _
  rw [lw_mi]; rfl
theorem lw_g45 {tcx : Nat → ClassId} {σ : zSt} {ad g : Nat → Nat} : lwF tcx σ ad g 45 = ((g 45), .inl (tcx 0, 2, .inl (fun _ => 0))) := rfl
theorem lw_g46 {tcx : Nat → ClassId} {σ : zSt} {ad g : Nat → Nat} : lwF tcx σ ad g 46 = ((g 46), .inl (tcx 0, 94, .inl (fun _ => 0))) := rfl
theorem lw_g47 {tcx : Nat → ClassId} {σ : zSt} {ad g : Nat → Nat} : lwF tcx σ ad g 47 = ((g 47), .inl (tcx 0, 13, .inl (fun _ => 0))) := rfl
theorem lw_g48 {tcx : Nat → ClassId} {σ : zSt} {ad g : Nat → Nat} : lwF tcx σ ad g 48 = ((g 48), .inl (tcx 0, 13, .inl (fun _ => 0))) := rfl
theorem lw_g49 {tcx : Nat → ClassId} {σ : zSt} {ad g : Nat → Nat} : lwF tcx σ ad g 49 = ((g 49), .inl (tcx 0, 13, .inl (fun _ => 0))) := rfl
theorem lw_g50 {tcx : Nat → ClassId} {σ : zSt} {ad g : Nat → Nat} : lwF tcx σ ad g 50 = ((g 50), .inl (tcx 0, 24, .inl (fun _ => 0))) := rfl
theorem lw_g51 {tcx : Nat → ClassId} {σ : zSt} {ad g : Nat → Nat} : lwF tcx σ ad g 51 = ((g 51), .inl (tcx 0, 9, .inl (fun _ => 0))) := rfl
theorem lw_g52 {tcx : Nat → ClassId} {σ : zSt} {ad g : Nat → Nat} : lwF tcx σ ad g 52 = ((g 52), .inl (tcx 0, 9, .inl (fun _ => 0))) := rfl
theorem lw_g53 {tcx : Nat → ClassId} {σ : zSt} {ad g : Nat → Nat} : lwF tcx σ ad g 53 = ((g 53), .inl (tcx 0, 9, .inl (fun _ => 0))) := rfl
theorem lw_g54 {tcx : Nat → ClassId} {σ : zSt} {ad g : Nat → Nat} : lwF tcx σ ad g 54 = ((g 54), .inl (tcx 0, 9, .inl (fun _ => 0))) := rfl
theorem lw_g55 {tcx : Nat → ClassId} {σ : zSt} {ad g : Nat → Nat} : lwF tcx σ ad g 55 = ((g 55), .inl (tcx 0, 9, .inl (fun _ => 0))) := rfl
theorem lw_g56 {tcx : Nat → ClassId} {σ : zSt} {ad g : Nat → Nat} : lwF tcx σ ad g 56 = ((g 56), .inl (tcx 0, 9, .inl (fun _ => 0))) := rfl
theorem lw_g57 {tcx : Nat → ClassId} {σ : zSt} {ad g : Nat → Nat} : lwF tcx σ ad g 57 = ((g 57), .inl (tcx 0, 13, .inl (fun _ => 0))) := rfl
theorem lw_g58 {tcx : Nat → ClassId} {σ : zSt} {ad g : Nat → Nat} : lwF tcx σ ad g 58 = ((g 58), .inl (tcx 0, 12, .inl (fun _ => 0))) := rfl
theorem lw_g59 {tcx : Nat → ClassId} {σ : zSt} {ad g : Nat → Nat} : lwF tcx σ ad g 59 = ((g 59), .inl (tcx 0, 12, .inl (fun _ => 0))) := rfl
theorem lw_g60 {tcx : Nat → ClassId} {σ : zSt} {ad g : Nat → Nat} : lwF tcx σ ad g 60 = ((g 60), .inl (tcx 0, 12, .inl (fun _ => 0))) := rfl
theorem lw_g61 {tcx : Nat → ClassId} {σ : zSt} {ad g : Nat → Nat} : lwF tcx σ ad g 61 = ((g 61), .inl (tcx 0, 288, .inl (fun _ => 0))) := rfl
theorem lw_g62 {tcx : Nat → ClassId} {σ : zSt} {ad g : Nat → Nat} : lwF tcx σ ad g 62 = ((g 62), .inl (tcx 0, 288, .inl (fun _ => 0))) := rfl
theorem lw_g63 {tcx : Nat → ClassId} {σ : zSt} {ad g : Nat → Nat} : lwF tcx σ ad g 63 = ((g 63), .inl (tcx 0, 288, .inl (fun _ => 0))) := rfl
theorem lw_g64 {tcx : Nat → ClassId} {σ : zSt} {ad g : Nat → Nat} : lwF tcx σ ad g 64 = ((g 64), .inl (tcx 0, 24, .inl (fun _ => 0))) := rfl
theorem lw_g65 {tcx : Nat → ClassId} {σ : zSt} {ad g : Nat → Nat} : lwF tcx σ ad g 65 = ((g 65), .inl (tcx 0, 2, .inl (fun _ => 0))) := rfl
theorem lw_g66 {tcx : Nat → ClassId} {σ : zSt} {ad g : Nat → Nat} : lwF tcx σ ad g 66 = ((g 66), .inl (tcx 0, 8, .inl (fun _ => 0))) := rfl
theorem lw_g67 {tcx : Nat → ClassId} {σ : zSt} {ad g : Nat → Nat} : lwF tcx σ ad g 67 = ((g 67), .inl (tcx 0, 8, .inl (fun _ => 0))) := rfl
theorem lw_g68 {tcx : Nat → ClassId} {σ : zSt} {ad g : Nat → Nat} : lwF tcx σ ad g 68 = ((g 68), .inl (tcx 0, 8, .inl (fun _ => 0))) := rfl
theorem lw_g69 {tcx : Nat → ClassId} {σ : zSt} {ad g : Nat → Nat} : lwF tcx σ ad g 69 = ((g 69), .inl (tcx 1, 240, .inr (.inl (fun _ => 0)))) := rfl
theorem lw_g70 {tcx : Nat → ClassId} {σ : zSt} {ad g : Nat → Nat} : lwF tcx σ ad g 70 = ((g 70), .inl (tcx 2, 4, .inl (fun _ => 0))) := rfl
theorem lw_g71 {tcx : Nat → ClassId} {σ : zSt} {ad g : Nat → Nat} : lwF tcx σ ad g 71 = ((g 71), .inl (tcx 0, 4, .inl (fun _ => 0))) := rfl
theorem lw_g72 {tcx : Nat → ClassId} {σ : zSt} {ad g : Nat → Nat} : lwF tcx σ ad g 72 = ((g 72), .inl (tcx 0, 4, .inl (fun _ => 0))) := rfl
theorem lw_g73 {tcx : Nat → ClassId} {σ : zSt} {ad g : Nat → Nat} : lwF tcx σ ad g 73 = ((g 73), .inl (tcx 0, 240, .inl (fun _ => 0))) := rfl
theorem lw_g74 {tcx : Nat → ClassId} {σ : zSt} {ad g : Nat → Nat} : lwF tcx σ ad g 74 = ((g 74), .inl (tcx 0, 60, .inl (fun _ => 0))) := rfl
theorem lw_hi {tcx : Nat → ClassId} {ad g : Nat → Nat} {σ : zSt} : (List.range' 44 31).map (lwF tcx σ ad g) = ([((g 44), .inr (6, [.ref (g 45), .ref (g 46), .int 0, .ref (g 47), .ref (g 48), .ref (g 49), .int 0, .ref (g 50), .int 0, .ref (g 51), .ref (g 52), .ref (g 53), .int 0, .ref (g 54), .ref (g 55), .ref (g 56), .int 0, .int 0, .int 0, .int 0, .ref (g 57), .ref (g 58), .ref (g 59), .ref (g 60), .ref (g 61), .ref (g 62), .ref (g 63), .ref (g 64), .ref (g 65), .int 0, .ref (g 66), .ref (g 67), .ref (g 68), .ref (g 69), .ref (g 70), .ref (g 71), .ref (g 72), .ref (g 73), .ref (g 74), .int 0])), ((g 45), .inl (tcx 0, 2, .inl (fun _ => 0))), ((g 46), .inl (tcx 0, 94, .inl (fun _ => 0))), ((g 47), .inl (tcx 0, 13, .inl (fun _ => 0))), ((g 48), .inl (tcx 0, 13, .inl (fun _ => 0))), ((g 49), .inl (tcx 0, 13, .inl (fun _ => 0))), ((g 50), .inl (tcx 0, 24, .inl (fun _ => 0))), ((g 51), .inl (tcx 0, 9, .inl (fun _ => 0))), ((g 52), .inl (tcx 0, 9, .inl (fun _ => 0))), ((g 53), .inl (tcx 0, 9, .inl (fun _ => 0))), ((g 54), .inl (tcx 0, 9, .inl (fun _ => 0))), ((g 55), .inl (tcx 0, 9, .inl (fun _ => 0))), ((g 56), .inl (tcx 0, 9, .inl (fun _ => 0))), ((g 57), .inl (tcx 0, 13, .inl (fun _ => 0))), ((g 58), .inl (tcx 0, 12, .inl (fun _ => 0))), ((g 59), .inl (tcx 0, 12, .inl (fun _ => 0))), ((g 60), .inl (tcx 0, 12, .inl (fun _ => 0))), ((g 61), .inl (tcx 0, 288, .inl (fun _ => 0))), ((g 62), .inl (tcx 0, 288, .inl (fun _ => 0))), ((g 63), .inl (tcx 0, 288, .inl (fun _ => 0))), ((g 64), .inl (tcx 0, 24, .inl (fun _ => 0))), ((g 65), .inl (tcx 0, 2, .inl (fun _ => 0))), ((g 66), .inl (tcx 0, 8, .inl (fun _ => 0))), ((g 67), .inl (tcx 0, 8, .inl (fun _ => 0))), ((g 68), .inl (tcx 0, 8, .inl (fun _ => 0))), ((g 69), .inl (tcx 1, 240, .inr (.inl (fun _ => 0)))), ((g 70), .inl (tcx 2, 4, .inl (fun _ => 0))), ((g 71), .inl (tcx 0, 4, .inl (fun _ => 0))), ((g 72), .inl (tcx 0, 4, .inl (fun _ => 0))), ((g 73), .inl (tcx 0, 240, .inl (fun _ => 0))), ((g 74), .inl (tcx 0, 60, .inl (fun _ => 0)))] : va_W) := by
  rw [show List.range' 44 31 = [44, 45, 46, 47, 48, 49, 50, 51, 52, 53, 54, 55, 56, 57, 58, 59, 60, 61, 62, 63, 64, 65, 66, 67, 68, 69, 70, 71, 72, 73, 74] by decide]
  simp only [List.map_cons, List.map_nil]
  rw [lw_g44, lw_g45, lw_g46, lw_g47, lw_g48, lw_g49, lw_g50, lw_g51, lw_g52, lw_g53, lw_g54, lw_g55, lw_g56, lw_g57, lw_g58, lw_g59, lw_g60, lw_g61, lw_g62, lw_g63, lw_g64, lw_g65, lw_g66, lw_g67, lw_g68, lw_g69, lw_g70, lw_g71, lw_g72, lw_g73, lw_g74]
set_option maxHeartbeats 4000000 in
set_option maxRecDepth 100000 in
theorem lw_w75 {D : va_G} {tc : Nat → ClassId} {cA : ClassId} {σ : zSt} {ad g : Nat → Nat} : zwl (D, 75, lwA ad g, tcS tc cA) (lwS σ) = List.set (((zwl (D, 44, ad, tcS tc cA) σ) : va_W) ++ ([((g 44), .inr (6, [.ref (g 45), .ref (g 46), .int 0, .ref (g 47), .ref (g 48), .ref (g 49), .int 0, .ref (g 50), .int 0, .ref (g 51), .ref (g 52), .ref (g 53), .int 0, .ref (g 54), .ref (g 55), .ref (g 56), .int 0, .int 0, .int 0, .int 0, .ref (g 57), .ref (g 58), .ref (g 59), .ref (g 60), .ref (g 61), .ref (g 62), .ref (g 63), .ref (g 64), .ref (g 65), .int 0, .ref (g 66), .ref (g 67), .ref (g 68), .ref (g 69), .ref (g 70), .ref (g 71), .ref (g 72), .ref (g 73), .ref (g 74), .int 0])), ((g 45), .inl (tcS tc cA 0, 2, .inl (fun _ => 0))), ((g 46), .inl (tcS tc cA 0, 94, .inl (fun _ => 0))), ((g 47), .inl (tcS tc cA 0, 13, .inl (fun _ => 0))), ((g 48), .inl (tcS tc cA 0, 13, .inl (fun _ => 0))), ((g 49), .inl (tcS tc cA 0, 13, .inl (fun _ => 0))), ((g 50), .inl (tcS tc cA 0, 24, .inl (fun _ => 0))), ((g 51), .inl (tcS tc cA 0, 9, .inl (fun _ => 0))), ((g 52), .inl (tcS tc cA 0, 9, .inl (fun _ => 0))), ((g 53), .inl (tcS tc cA 0, 9, .inl (fun _ => 0))), ((g 54), .inl (tcS tc cA 0, 9, .inl (fun _ => 0))), ((g 55), .inl (tcS tc cA 0, 9, .inl (fun _ => 0))), ((g 56), .inl (tcS tc cA 0, 9, .inl (fun _ => 0))), ((g 57), .inl (tcS tc cA 0, 13, .inl (fun _ => 0))), ((g 58), .inl (tcS tc cA 0, 12, .inl (fun _ => 0))), ((g 59), .inl (tcS tc cA 0, 12, .inl (fun _ => 0))), ((g 60), .inl (tcS tc cA 0, 12, .inl (fun _ => 0))), ((g 61), .inl (tcS tc cA 0, 288, .inl (fun _ => 0))), ((g 62), .inl (tcS tc cA 0, 288, .inl (fun _ => 0))), ((g 63), .inl (tcS tc cA 0, 288, .inl (fun _ => 0))), ((g 64), .inl (tcS tc cA 0, 24, .inl (fun _ => 0))), ((g 65), .inl (tcS tc cA 0, 2, .inl (fun _ => 0))), ((g 66), .inl (tcS tc cA 0, 8, .inl (fun _ => 0))), ((g 67), .inl (tcS tc cA 0, 8, .inl (fun _ => 0))), ((g 68), .inl (tcS tc cA 0, 8, .inl (fun _ => 0))), ((g 69), .inl (tcS tc cA 1, 240, .inr (.inl (fun _ => 0)))), ((g 70), .inl (tcS tc cA 2, 4, .inl (fun _ => 0))), ((g 71), .inl (tcS tc cA 0, 4, .inl (fun _ => 0))), ((g 72), .inl (tcS tc cA 0, 4, .inl (fun _ => 0))), ((g 73), .inl (tcS tc cA 0, 240, .inl (fun _ => 0))), ((g 74), .inl (tcS tc cA 0, 60, .inl (fun _ => 0)))] : va_W)) 33 (ad 33, .inl (tcS tc cA 3, 4, .inr (.inr (.inr (.inr (fun j => some (lwA ad g (33 + 1 + 2 * j)))))))) := by
  have hl : (zwl (D, 44, ad, tcS tc cA) σ).length = 44 := by unfold zwl; rw [List.length_map, List.length_range]
  rw [List.set_append_left _ _ (by rw [hl]; omega), ← lw_hi (ad := ad) (σ := σ) (tcx := tcS tc cA)]
  show (List.range 75).map (lwF (tcS tc cA) σ ad g) = _
  rw [show List.range 75 = List.range 44 ++ List.range' 44 31 by decide, List.map_append, lw_loS]
  rfl
set_option maxHeartbeats 40000000 in
set_option maxRecDepth 100000 in
/-- THE LAW, from its entry -/
theorem whole_start {p : Program} {e : Env} {s : State} {m : MethodId} {below : List Frame} {meth : Method} {c : Code} (l : Launch) (hflags : l.flags = flags0) {b L : Nat} {xs : Nat → Int32} (hL : L ≤ 3072) (C0 : lw_At p s m meth c b L xs) : W p l e room_1 s m #[Value.ref b] below meth c s.heap [] 0 0 (lw_Z below #[Value.ref b] s) (entryFrame m ([Value.ref b] : List Value).toArray 4) := by
  have C1 := C0
  obtain ⟨D, tc, hK, hZ⟩ := lw_K0 C0
  obtain ⟨hx, hb, hr, hml, hown, hts, hX, hbl, hlocks, hgv⟩ := C0
  have hz : ∀ w ∈ z_tbl, w.before #[Value.ref b] s = true := fun w hw => hts w (List.mem_filter.mp hw).1
  have hA : ∀ q : Nat, s.heap.size ≤ q → (fun q : Nat => s.heap.size ≤ q) q := fun _ h => h
  have hS : va_S (fun q : Nat => s.heap.size ≤ q) s.heap s.heap [] := va_S.rf
  have hP : va_P D vwCl [] s.heap := fun k q h => by simp at h
  have hD : va_D (fun q : Nat => s.heap.size ≤ q) [] := ⟨fun i j p q h => by simp at h, fun k q h => by simp at h⟩
  have hl := lv_entry ([.ref b]) (n := 4) (Nat.le_of_ble_eq_true rfl)
  rw [lg_entry_eq]
  generalize (lg_sl ([.ref b]) ++ List.replicate (4 - (lg_sl ([.ref b])).length) Slot.unset).toArray = ls at hl ⊢
  have hl : lv_has ls 4 [(0, .ref b)] := hl
  refine va_new (ci := 5) (fs := [.null, .null, .null, .null, .null, .null, .null, .null, .null, .null, .int 0, .int 0]) (C := RX6) (T := TX6) (N := 12) hx hb hz z_ws6 tyX6 tyX6_ok hown (hz _ (z_in (List.mem_of_getElem? (i := 87) (by decide +kernel)) rfl)) (hz _ (z_in (List.mem_of_getElem? (i := 88) (by decide +kernel)) rfl)) (hz _ (z_in (List.mem_of_getElem? (i := 76) (by decide +kernel)) rfl)) hK hP hD hS hA rfl (fun j hj => by rcases (show j = 0 ∨ j = 1 ∨ j = 2 ∨ j = 3 ∨ j = 4 ∨ j = 5 ∨ j = 6 ∨ j = 7 ∨ j = 8 ∨ j = 9 ∨ j = 10 ∨ j = 11 by omega) with rfl | rfl | rfl | rfl | rfl | rfl | rfl | rfl | rfl | rfl | rfl | rfl <;> rfl) (Nat.le_of_ble_eq_true rfl) (Nat.le_of_ble_eq_true rfl) dl_0 (fun q0 H hP hD hS => ?_)
  have hP : va_P D vwCl [(q0, .inr (5, [.null, .null, .null, .null, .null, .null, .null, .null, .null, .null, .int 0, .int 0]))] H := hP
  have hD : va_D (fun q : Nat => s.heap.size ≤ q) [(q0, .inr (5, [.null, .null, .null, .null, .null, .null, .null, .null, .null, .null, .int 0, .int 0]))] := hD
  refine W.widen (k := 1) (n := 12) (by omega) (by omega) ?_
  refine lv_dup hx hb dl_3 rfl ?_
  have hFc := va_free (wc := [(q0, .inr (5, [.null, .null, .null, .null, .null, .null, .null, .null, .null, .null, .int 0, .int 0]))]) hD hS hA [0] rfl
  refine va_callv (va_runI (As := []) (rest := [.ref q0]) ⟨hx, hb, hml, hown, hz⟩ (c_init_X6 l D tc q0 H.size) (cwI 0 hz (z_goodIn2 (z_in (List.mem_of_getElem? (i := 91) (by decide +kernel)) rfl)) rfl rfl rfl (hz _ (z_in (List.mem_of_getElem? (i := 76) (by decide +kernel)) rfl)) (hz _ (z_in (List.mem_of_getElem? (i := 89) (by decide +kernel)) rfl)) (hz _ (z_in (List.mem_of_getElem? (i := 90) (by decide +kernel)) rfl)) rfl (by decide +kernel) ⟨(Nat.le_of_ble_eq_true rfl), (Nat.le_of_ble_eq_true rfl)⟩) ⟨fun a U g mk q => by obtain ⟨q0, q1, qP, qK, qD, qZ⟩ := q; exact ⟨q0, q1, qP, va_K.moved (u := U) (U := U.calling g mk a) (Vm.Alike.refl U.vm) qK, qD, zNW.same (u := U) (U := U.calling g mk a) rfl qZ⟩, fun U hU hW => ⟨rfl, by rw [hU], by rw [hU]; exact hP, va_K.moved hW.alike hK, hD.weaken (fun _ _ _ _ => trivial), zNW.warm hW hZ⟩⟩ rfl rfl hl.1 rfl (lv_room (Nat.le_of_ble_eq_true rfl)) dl_4 ⟨(Nat.le_of_ble_eq_true rfl), (Nat.le_of_ble_eq_true rfl)⟩) hS (fun q _ h => hFc q h) hFc (fun u t H1 locs ht hvm hw hB hz1 hk1 hS => ?_)
  obtain ⟨ad, cA, σ, e0, hP1, hK1, hD1, hRC⟩ := hB
  rw [ht] at hP1
  have hK1 := va_K.moved hvm.symm hK1
  obtain ⟨hP, hD⟩ := va_join (wr := []) (w1 := (zwl (D, 44, ad, tcS tc cA) σ)) hP hD [0] [] rfl rfl (by decide) (by decide) hk1 hFc hP1 hD1
  generalize H1 = H at hP hS ⊢
  have hP : va_P D vwCl (zwl (D, 44, ad, tcS tc cA) σ) H := hP
  have hD : va_D (fun q : Nat => s.heap.size ≤ q) (zwl (D, 44, ad, tcS tc cA) σ) := hD
  refine W.widen (k := 44) (n := 1219) (by omega) (by omega) ?_
  refine lv_astore_n (lv' := [(1, .ref q0), (0, .ref b)]) hx hb dl_7 rfl hl (by decide) rfl (fun ls hl => ?_)
  refine va_new (ci := 6) (fs := [.null, .null, .int 0, .null, .null, .null, .int 0, .null, .int 0, .null, .null, .null, .int 0, .null, .null, .null, .int 0, .int 0, .int 0, .int 0, .null, .null, .null, .null, .null, .null, .null, .null, .null, .int 0, .null, .null, .null, .null, .null, .null, .null, .null, .null, .int 0]) (C := RX7) (T := TX7) (N := 40) hx hb hz z_ws7 tyX7 tyX7_ok hown (hz _ (z_in (List.mem_of_getElem? (i := 843) (by decide +kernel)) rfl)) (hz _ (z_in (List.mem_of_getElem? (i := 844) (by decide +kernel)) rfl)) (hz _ (z_in (List.mem_of_getElem? (i := 84) (by decide +kernel)) rfl)) hK1 hP hD hS hA rfl (fun j hj => by rcases (show j = 0 ∨ j = 1 ∨ j = 2 ∨ j = 3 ∨ j = 4 ∨ j = 5 ∨ j = 6 ∨ j = 7 ∨ j = 8 ∨ j = 9 ∨ j = 10 ∨ j = 11 ∨ j = 12 ∨ j = 13 ∨ j = 14 ∨ j = 15 ∨ j = 16 ∨ j = 17 ∨ j = 18 ∨ j = 19 ∨ j = 20 ∨ j = 21 ∨ j = 22 ∨ j = 23 ∨ j = 24 ∨ j = 25 ∨ j = 26 ∨ j = 27 ∨ j = 28 ∨ j = 29 ∨ j = 30 ∨ j = 31 ∨ j = 32 ∨ j = 33 ∨ j = 34 ∨ j = 35 ∨ j = 36 ∨ j = 37 ∨ j = 38 ∨ j = 39 by omega) with rfl | rfl | rfl | rfl | rfl | rfl | rfl | rfl | rfl | rfl | rfl | rfl | rfl | rfl | rfl | rfl | rfl | rfl | rfl | rfl | rfl | rfl | rfl | rfl | rfl | rfl | rfl | rfl | rfl | rfl | rfl | rfl | rfl | rfl | rfl | rfl | rfl | rfl | rfl | rfl <;> rfl) (Nat.le_of_ble_eq_true rfl) (Nat.le_of_ble_eq_true rfl) dl_8 (fun q H hP hD hS => ?_)
  refine W.widen (k := 45) (n := 1259) (by omega) (by omega) ?_
  refine lv_dup hx hb dl_11 rfl ?_
  have hlen : (zwl (D, 44, ad, tcS tc cA) σ).length = 44 := by unfold zwl; rw [List.length_map, List.length_range]
  have hPc := va_P_last hP
  have hDc := va_D_last hD
  have hKc : va_K D vwCl (tys3 (tcS tc cA)) s := hK1.sub [0, 1, 2] rfl
  have hFc := va_free (wc := [(q, .inr (6, [.null, .null, .int 0, .null, .null, .null, .int 0, .null, .int 0, .null, .null, .null, .int 0, .null, .null, .null, .int 0, .int 0, .int 0, .int 0, .null, .null, .null, .null, .null, .null, .null, .null, .null, .int 0, .null, .null, .null, .null, .null, .null, .null, .null, .null, .int 0]))]) hD hS hA [44] (va_cut hlen)
  refine va_callv (va_runI (As := []) (rest := [.ref q]) ⟨hx, hb, hml, hown, hz⟩ (c_init_X7 l D (tcS tc cA) q H.size) (cwI 0 hz (z_goodIn2 (z_in (List.mem_of_getElem? (i := 847) (by decide +kernel)) rfl)) rfl rfl rfl (hz _ (z_in (List.mem_of_getElem? (i := 84) (by decide +kernel)) rfl)) (hz _ (z_in (List.mem_of_getElem? (i := 845) (by decide +kernel)) rfl)) (hz _ (z_in (List.mem_of_getElem? (i := 846) (by decide +kernel)) rfl)) rfl (by decide +kernel) ⟨(Nat.le_of_ble_eq_true rfl), (Nat.le_of_ble_eq_true rfl)⟩) ⟨fun a U g mk q => by obtain ⟨q0, q1, qP, qK, qD⟩ := q; exact ⟨q0, q1, qP, va_K.moved (u := U) (U := U.calling g mk a) (Vm.Alike.refl U.vm) qK, qD⟩, fun U hU hW => ⟨rfl, by rw [hU], by rw [hU]; exact hPc, va_K.moved hW.alike hKc, hDc.weaken (fun _ _ _ _ => trivial)⟩⟩ rfl rfl hl.1 rfl (lv_room (Nat.le_of_ble_eq_true rfl)) dl_12 ⟨(Nat.le_of_ble_eq_true rfl), (Nat.le_of_ble_eq_true rfl)⟩) hS (fun q _ h => hFc q h) hFc (fun u t H1 locs ht hvm hw hB hz1 hk1 hS => ?_)
  obtain ⟨q1, q2, q3, q4, q5, q6, q7, q8, q9, q10, q11, q12, q13, q14, q15, q16, q17, q18, q19, q20, q21, q22, q23, q24, q25, q26, q27, q28, q29, q30, hP1, hK2, hD1⟩ := hB
  rw [ht] at hP1
  obtain ⟨hP, hD⟩ := va_join (wr := (zwl (D, 44, ad, tcS tc cA) σ)) (w1 := [(q, .inr (6, [.ref q1, .ref q2, .int 0, .ref q3, .ref q4, .ref q5, .int 0, .ref q6, .int 0, .ref q7, .ref q8, .ref q9, .int 0, .ref q10, .ref q11, .ref q12, .int 0, .int 0, .int 0, .int 0, .ref q13, .ref q14, .ref q15, .ref q16, .ref q17, .ref q18, .ref q19, .ref q20, .ref q21, .int 0, .ref q22, .ref q23, .ref q24, .ref q25, .ref q26, .ref q27, .ref q28, .ref q29, .ref q30, .int 0])), (q1, .inl (tcS tc cA 0, 2, .inl (fun _ => 0))), (q2, .inl (tcS tc cA 0, 94, .inl (fun _ => 0))), (q3, .inl (tcS tc cA 0, 13, .inl (fun _ => 0))), (q4, .inl (tcS tc cA 0, 13, .inl (fun _ => 0))), (q5, .inl (tcS tc cA 0, 13, .inl (fun _ => 0))), (q6, .inl (tcS tc cA 0, 24, .inl (fun _ => 0))), (q7, .inl (tcS tc cA 0, 9, .inl (fun _ => 0))), (q8, .inl (tcS tc cA 0, 9, .inl (fun _ => 0))), (q9, .inl (tcS tc cA 0, 9, .inl (fun _ => 0))), (q10, .inl (tcS tc cA 0, 9, .inl (fun _ => 0))), (q11, .inl (tcS tc cA 0, 9, .inl (fun _ => 0))), (q12, .inl (tcS tc cA 0, 9, .inl (fun _ => 0))), (q13, .inl (tcS tc cA 0, 13, .inl (fun _ => 0))), (q14, .inl (tcS tc cA 0, 12, .inl (fun _ => 0))), (q15, .inl (tcS tc cA 0, 12, .inl (fun _ => 0))), (q16, .inl (tcS tc cA 0, 12, .inl (fun _ => 0))), (q17, .inl (tcS tc cA 0, 288, .inl (fun _ => 0))), (q18, .inl (tcS tc cA 0, 288, .inl (fun _ => 0))), (q19, .inl (tcS tc cA 0, 288, .inl (fun _ => 0))), (q20, .inl (tcS tc cA 0, 24, .inl (fun _ => 0))), (q21, .inl (tcS tc cA 0, 2, .inl (fun _ => 0))), (q22, .inl (tcS tc cA 0, 8, .inl (fun _ => 0))), (q23, .inl (tcS tc cA 0, 8, .inl (fun _ => 0))), (q24, .inl (tcS tc cA 0, 8, .inl (fun _ => 0))), (q25, .inl (tcS tc cA 1, 240, .inr (.inl (fun _ => 0)))), (q26, .inl (tcS tc cA 2, 4, .inl (fun _ => 0))), (q27, .inl (tcS tc cA 0, 4, .inl (fun _ => 0))), (q28, .inl (tcS tc cA 0, 4, .inl (fun _ => 0))), (q29, .inl (tcS tc cA 0, 240, .inl (fun _ => 0))), (q30, .inl (tcS tc cA 0, 60, .inl (fun _ => 0)))]) hP hD [44] (List.range 44) (va_cut hlen) (va_rest hlen) (by decide) (by decide) hk1 hFc hP1 hD1
  generalize H1 = H at hP hS ⊢
  refine W.widen (k := 75) (n := 2987) (by omega) (by omega) ?_
  refine lv_astore_n (lv' := [(2, .ref q), (1, .ref q0), (0, .ref b)]) hx hb dl_15 rfl hl (by decide) rfl (fun ls hl => ?_)
  refine lv_iconst (v := nI 0) hx hb dl_16 (by decide) ?_
  refine lv_istore_n (lv' := [(3, .int (nI 0)), (2, .ref q), (1, .ref q0), (0, .ref b)]) hx hb dl_17 rfl hl (by decide) rfl (fun ls hl => ?_)
  refine W.widen (k := 600000) (n := 7302250) (by omega) (by omega) ?_
  obtain ⟨g, e44, e45, e46, e47, e48, e49, e50, e51, e52, e53, e54, e55, e56, e57, e58, e59, e60, e61, e62, e63, e64, e65, e66, e67, e68, e69, e70, e71, e72, e73, e74⟩ : ∃ g : Nat → Nat, g 44 = q ∧ g 45 = q1 ∧ g 46 = q2 ∧ g 47 = q3 ∧ g 48 = q4 ∧ g 49 = q5 ∧ g 50 = q6 ∧ g 51 = q7 ∧ g 52 = q8 ∧ g 53 = q9 ∧ g 54 = q10 ∧ g 55 = q11 ∧ g 56 = q12 ∧ g 57 = q13 ∧ g 58 = q14 ∧ g 59 = q15 ∧ g 60 = q16 ∧ g 61 = q17 ∧ g 62 = q18 ∧ g 63 = q19 ∧ g 64 = q20 ∧ g 65 = q21 ∧ g 66 = q22 ∧ g 67 = q23 ∧ g 68 = q24 ∧ g 69 = q25 ∧ g 70 = q26 ∧ g 71 = q27 ∧ g 72 = q28 ∧ g 73 = q29 ∧ g 74 = q30 := ⟨fun k => ([q, q1, q2, q3, q4, q5, q6, q7, q8, q9, q10, q11, q12, q13, q14, q15, q16, q17, q18, q19, q20, q21, q22, q23, q24, q25, q26, q27, q28, q29, q30] : List Nat).getD (k - 44) 0, rfl, rfl, rfl, rfl, rfl, rfl, rfl, rfl, rfl, rfl, rfl, rfl, rfl, rfl, rfl, rfl, rfl, rfl, rfl, rfl, rfl, rfl, rfl, rfl, rfl, rfl, rfl, rfl, rfl, rfl, rfl⟩
  subst e44 e45 e46 e47 e48 e49 e50 e51 e52 e53 e54 e55 e56 e57 e58 e59 e60 e61 e62 e63 e64 e65 e66 e67 e68 e69 e70 e71 e72 e73 e74
  have hP3 := va_P_set1 (k := 33) (a := ad 33) (x := (tcS tc cA 3, 4, .inr (.inr (.inr (.inr (fun j => some (ad (33 + 1 + 2 * j)))))))) (y := (tcS tc cA 3, 4, .inr (.inr (.inr (.inr (fun j => some (lwA ad g (33 + 1 + 2 * j)))))))) hP rfl (z_refs rfl rfl rfl rfl)
  have hD3 := va_D_set1 (k := 33) (a := ad 33) (e0 := .inl (tcS tc cA 3, 4, .inr (.inr (.inr (.inr (fun j => some (ad (33 + 1 + 2 * j)))))))) (e := .inl (tcS tc cA 3, 4, .inr (.inr (.inr (.inr (fun j => some (lwA ad g (33 + 1 + 2 * j)))))))) hD rfl
  rw [← lw_w75] at hP3 hD3
  obtain ⟨ad2, h2⟩ : ∃ f, f = lwA ad g := ⟨_, rfl⟩
  obtain ⟨σ2, hs2⟩ : ∃ f, f = lwS σ := ⟨_, rfl⟩
  rw [← h2, ← hs2] at hP3 hD3
  have e44 : ad2 44 = g 44 := by rw [h2]; rfl
  have e00 : ad2 0 = q0 := by rw [h2]; exact e0
  have hl : lv_has ls 4 [(3, .int (nI 0)), (2, .ref (ad2 44)), (1, .ref (ad2 0)), (0, .ref b)] := by rw [e44, e00]; exact hl
  have hRC2 : RC σ2 aS0 := RC_low (fun a ha => by
    have hb1 : Nat.blt a 44 = true := Nat.blt_eq.mpr ha
    rw [hs2]
    refine ⟨funext fun j => ?_, funext fun j => ?_⟩
    · show (bif Nat.blt a 44 then σ.1 a j else 0) = _
      rw [hb1]; rfl
    · show (bif Nat.blt a 44 then σ.2 a j else 0) = _
      rw [hb1]; rfl) hRC
  have hRM2 : RM σ2 aS0 := RM_high (fun a ha => by
    rw [hs2]
    refine funext fun j => ?_
    show (bif Nat.blt a 44 then σ.1 a j else 0) = _
    have hb1 : Nat.blt a 44 = false := by
      cases h : Nat.blt a 44 with
      | false => rfl
      | true => exact absurd (Nat.blt_eq.mp h) (by omega)
    rw [hb1]; rfl) (RM_0 (y := fun _ _ => 0))
  exact law_loop (G := (D, 75, ad2, tcS tc cA)) C1 hL rfl hK1 (L + 1) 0 aS0 (Nat.zero_le L) (by omega) aOk_0 σ2 H _ ls hRC2 hRM2 hP3 hD3 hS hl
