/-! ===== what holds at the law's entry ===== -/
def lw_tm (i : Nat) : Term := .string RX4 ((mp_str.getD i (0, "")).1)
def lw_vt (i : Nat) : Term := .field (lw_tm i) "java/lang/String" "value" "[B"
abbrev lw_fl : List Cond := flatC (Cond.and given_1 narrow_1)
theorem lw_f1 : ∀ i : Nat, i < 10 → Cond.exactly (lw_tm i) "java/lang/String" ∈ lw_fl := by decide +kernel
theorem lw_f2 : ∀ i : Nat, i < 10 → Cond.eq (.field (lw_tm i) "java/lang/String" "coder" "B") (.int 0) ∈ lw_fl := by decide +kernel
theorem lw_f3 : ∀ i : Nat, i < 10 → Cond.arrayOf (lw_vt i) .byte ∈ lw_fl := by decide +kernel
theorem lw_f4 : ∀ i : Nat, i < 10 → Cond.eq (.length (lw_vt i)) (.int (Int32.ofNat (mp_len.getD i 0))) ∈ lw_fl := by decide +kernel
theorem lw_f5 : ∀ i : Nat, i < 10 → ∀ j : Nat, j < mp_len.getD i 0 → Cond.eq (.elem (lw_vt i) (.int (Int32.ofNat j))) (.int ((mp_byt.getD i []).getD j 0)) ∈ lw_fl := by decide +kernel
theorem lw_f6 : ∀ i : Nat, i < 10 → ∀ j : Nat, j < i → Cond.not (Cond.eq (lw_tm j) (lw_tm i)) ∈ lw_fl := by decide +kernel
theorem lw_f7 : ∀ i : Nat, i < 10 → mp_len.getD i 0 < 2 ^ 31 := by decide +kernel
theorem lw_f8 : Cond.arrayOf (.static "java/util/ArrayList" "DEFAULTCAPACITY_EMPTY_ELEMENTDATA" "[Ljava/lang/Object;") (.object "java/lang/Object") ∈ lw_fl := by decide +kernel
theorem lw_f9 : Cond.eq (.length (.static "java/util/ArrayList" "DEFAULTCAPACITY_EMPTY_ELEMENTDATA" "[Ljava/lang/Object;")) (.int (Int32.ofNat 0)) ∈ lw_fl := by decide +kernel
theorem lw_f10 : Cond.eq (.static "java/lang/String" "COMPACT_STRINGS" "Z") (.int 1) ∈ lw_fl := by decide +kernel
theorem lw_f11 : Cond.isRef (.static "jdk/internal/util/Preconditions" "SIOOBE_FORMATTER" "Ljava/util/function/BiFunction;") ∈ lw_fl := by decide +kernel
theorem lw_f12 : Cond.isRef (.mirror "[Ljava/lang/Object;") ∈ lw_fl := by decide +kernel
theorem lw_g1 : ∀ i : Nat, i < 10 → Cond.stringRef RX4 (mp_str.getD i (0, "")).1 (mp_str.getD i (0, "")).2 ∈ lw_tbl := by decide +kernel
theorem lw_g2 : ∀ w ∈ mp_nw, w ∈ lw_tbl := by decide +kernel
theorem lw_g3 : mp_nw.all (fun w => w.onTables) = true := by decide +kernel
theorem lw_g4 : ∀ w ∈ [Cond.laysStatic "java/util/ArrayList" "DEFAULTCAPACITY_EMPTY_ELEMENTDATA" "[Ljava/lang/Object;", .initialized "java/util/ArrayList", .laysStatic "java/lang/String" "COMPACT_STRINGS" "Z", .initialized "java/lang/String", .laysStatic "jdk/internal/util/Preconditions" "SIOOBE_FORMATTER" "Ljava/util/function/BiFunction;", .initialized "jdk/internal/util/Preconditions", .declares ⟨"java/lang/Object", "getClass", "()Ljava/lang/Class;"⟩, .arrayOver (.object "java/lang/Object"), .arrayClass .byte, .arrayClass .int, .arrayClass .boolean, .instantiable RJx4a65c 3, .instantiable RX0 12, .instantiable RX1 7, .instantiable RX2 4, .instantiable RX3 3, .instantiable RX4 4, .instantiable RX5 3, .instantiable RX6 6, .instantiable RX7 9, .instantiable RX8 45], w ∈ lw_tbl := by decide +kernel
theorem lw_arr {a : Array Value} {s : State} {ty : FieldType} (h : (Cond.arrayClass ty).before a s = true) (hr : ∀ cA, va_RA s cA ty = (s.vm.findClass ("[" ++ ty.toString) = some cA)) : ∃ cA : ClassId, ArrOfT s cA ty ∧ va_RA s cA ty := by
  obtain ⟨cA, kA, comp, h1, h2, h3⟩ := Cond.arrayClass_spec h
  exact ⟨cA, fun n z => ⟨fun k h => (by cases h), kA, h2, comp, h3⟩, by rw [hr]; exact h1⟩
theorem lw_arO {a : Array Value} {s : State} {C : String} (h : (Cond.arrayOver (.object C)).before a s = true) : ∃ cA : ClassId, ArrOfT s cA (.object C) ∧ va_RA s cA (.object C) := by
  obtain ⟨comp, cA, kA, h1, -, h2, h3, h4⟩ := Cond.arrayOver_spec h
  exact ⟨cA, fun n z => ⟨fun k h => (by cases h), kA, h2, comp, h3⟩, kA, comp, h2, h3, h1, h4⟩
theorem lw_K {a : Array Value} {s : State} (hts : ∀ w ∈ lw_tbl, w.before a s = true) : ∃ G : mp_G, va_K G.1 vwCl (mp_tys G) s := by
  have g4 := fun w hw => hts w (lw_g4 w hw)
  obtain ⟨c0, i0, k0⟩ := u_known (C := RJx4a65c) (T := TJx4a65c) (N := 3) (n := 3) hts inJx4a65c (g4 _ (by simp))
  obtain ⟨c1, i1, k1⟩ := u_known (C := RX0) (T := TX0) (N := 12) (n := 12) hts inX0 (g4 _ (by simp))
  obtain ⟨c3, i2, k2⟩ := u_known (C := RX1) (T := TX1) (N := 7) (n := 7) hts inX1 (g4 _ (by simp))
  obtain ⟨c4, i3, k3⟩ := u_known (C := RX2) (T := TX2) (N := 4) (n := 4) hts inX2 (g4 _ (by simp))
  obtain ⟨c5, i4, k4⟩ := u_known (C := RX3) (T := TX3) (N := 3) (n := 3) hts inX3 (g4 _ (by simp))
  obtain ⟨c6, i5, k5⟩ := u_known (C := RX4) (T := TX4) (N := 4) (n := 4) hts inX4 (g4 _ (by simp))
  obtain ⟨c7, i6, k6⟩ := u_known (C := RX5) (T := TX5) (N := 3) (n := 3) hts inX5 (g4 _ (by simp))
  obtain ⟨c8, i7, k7⟩ := u_known (C := RX6) (T := TX6) (N := 6) (n := 6) hts inX6 (g4 _ (by simp))
  obtain ⟨c9, i8, k8⟩ := u_known (C := RX7) (T := TX7) (N := 9) (n := 9) hts inX7 (g4 _ (by simp))
  obtain ⟨d0, i9, k9⟩ := u_known (C := RX8) (T := TX8) (N := 45) (n := 45) hts inX8 (g4 _ (by simp))
  obtain ⟨a1, p1⟩ := lw_arr (ty := .byte) (g4 _ (by simp)) (fun _ => rfl)
  obtain ⟨a2, p2⟩ := lw_arr (ty := .int) (g4 _ (by simp)) (fun _ => rfl)
  obtain ⟨a3, p3⟩ := lw_arr (ty := .boolean) (g4 _ (by simp)) (fun _ => rfl)
  obtain ⟨a4, p4⟩ := lw_arO (C := "java/lang/Object") (g4 _ (by simp))
  refine ⟨((fun k => [c0, c1, c3, c4, c5, c6, c7, c8, c9].getD k d0, fun k => [i0, i1, i2, i3, i4, i5, i6, i7, i8].getD k i9), a1, a2, a3, a4), fun k q hq => ?_, fun k q hq => ?_⟩
  · match k, hq with
    | 0, hq => cases hq; exact k0
    | 1, hq => cases hq; exact k1
    | 2, hq => cases hq; exact k2
    | 3, hq => cases hq; exact k3
    | 4, hq => cases hq; exact k4
    | 5, hq => cases hq; exact k5
    | 6, hq => cases hq; exact k6
    | 7, hq => cases hq; exact k7
    | 8, hq => cases hq; exact k8
    | 9, hq => cases hq; exact k9
    | k + 10, hq => simp [vwCl] at hq
  · match k, hq with
    | 0, hq => cases hq; exact p1
    | 1, hq => cases hq; exact p2
    | 2, hq => cases hq; exact p3
    | 3, hq => cases hq; exact p4
    | k + 4, hq => simp [mp_tys] at hq
theorem lw_C {b : Nat} {s : State} (hts : ∀ w ∈ lw_tbl, w.before #[Value.ref b] s = true) (hgv : (Jvm.Cond.and given_1 narrow_1).before #[Value.ref b] s = true) : ∃ (X : mp_X) (G : mp_G), mp_C X G (fun q : Nat => s.heap.size ≤ q) s s.heap := by
  obtain ⟨G, hK⟩ := lw_K hts
  have hs := flat_of_before _ hgv
  have g4 := fun w hw => hts w (lw_g4 w hw)
  have hA : ∀ a : Nat, a < s.heap.size → ¬ (fun q : Nat => s.heap.size ≤ q) a := fun a h1 h2 => Nat.lt_irrefl _ (Nat.lt_of_lt_of_le h1 h2)
  obtain ⟨x1, e1, hT⟩ := va_Tof (f := fun _ => .null) (A := fun q : Nat => s.heap.size ≤ q) (N := 0) (by decide) (hs _ lw_f8) (va_eqt (hs _ lw_f9)) (fun j hj => absurd hj (Nat.not_lt_zero j)) hA
  obtain ⟨mi, hMi⟩ := va_Mi.of (hs _ lw_f12)
  obtain ⟨adK, adV, hSt, hSe⟩ := vk_Sof (N := 10) (tm := lw_tm) (len := mp_len) (byt := mp_byt) (A := fun q : Nat => s.heap.size ≤ q) lw_f7 (fun i hi => hs _ (lw_f1 i hi)) (fun i hi => hs _ (lw_f2 i hi)) (fun i hi => hs _ (lw_f3 i hi)) (fun i hi => hs _ (lw_f4 i hi)) (fun i hi j hj => hs _ (lw_f5 i hi j hj)) (fun i j hi hj hij => by
    rcases Nat.lt_or_gt_of_ne hij with h | h
    · exact Or.inl (hs _ (lw_f6 j hj i h))
    · exact Or.inr (hs _ (lw_f6 i hi j h))) hA
  have hq := va_Zqof (A := fun q : Nat => s.heap.size ≤ q) (g4 (.laysStatic "jdk/internal/util/Preconditions" "SIOOBE_FORMATTER" "Ljava/util/function/BiFunction;") (by simp)) (g4 (.initialized "jdk/internal/util/Preconditions") (by simp)) (hs _ lw_f11) hA
  refine ⟨(x1, mi, adK, adV), G, hK, fun w hw => va_Nw.of (List.all_eq_true.mp lw_g3 w hw) (hts w (lw_g2 w hw)), ⟨va_Zof (g4 _ (by simp)) (g4 _ (by simp)) e1 hA, hT, va_Zof (g4 _ (by simp)) (g4 _ (by simp)) (va_eqi (hs _ lw_f10)) hA, hMi, va_Dc.of (g4 _ (by simp)), va_AO.of (g4 _ (by simp)), hSt, ?_, ?_⟩, fun q hq => hq⟩
  · intro i q hi
    have h1 : i < 10 := (List.getElem?_eq_some_iff.mp hi).1
    have h2 : mp_str.getD i (0, "") = q := by rw [List.getD_eq_getElem?_getD, hi]; rfl
    have h3 := hts _ (lw_g1 i h1)
    have h4 := hSe i h1
    unfold lw_tm at h4
    rw [h2] at h3 h4
    exact vk_R.of h3 h4
  · rcases hq with h | ⟨t, h⟩
    · exact ⟨none, h⟩
    · exact ⟨some t, h⟩
