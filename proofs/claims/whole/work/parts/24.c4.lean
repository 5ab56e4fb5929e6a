/-! ===== a list is made; a ring is made ===== -/
abbrev rmJxa1e45_init_da8c8 : Room := { frames := 1, cells := 0, slots := 0, locals := 12 }
set_option maxHeartbeats 4000000 in
set_option maxRecDepth 100000 in
theorem c_Jxa1e45_init_da8c8 (l : Launch) (X : mp_X) (G : mp_G) (A : Nat → Prop) (M : mp_M) (aq : Nat) : mp_Met l X G A yJxa1e45_init_da8c8 wsJxa1e45_init_da8c8 rmJxa1e45_init_da8c8 ([.ref aq] : List Value) M (fun r M1 => r = none ∧ M1 = M) 0 0 := by
  refine mp_ofW (cc := cJxa1e45_init_da8c8) (maxL := 1) (ret := none) (by decide) rfl (Nat.le_of_ble_eq_true rfl) ?_
  intro p e s m below meth c ls hx hb hr hts hown hlocks hnm hml hC hM hS hl
  have hl : lv_has ls 1 [(0, .ref aq)] := hl
  have hown : s.vm.findClass RJxa1e45 = some m.cls := hown
  have oi_l := hts (.methodLink RJxa1e45 1 objectInit) (List.mem_of_getElem? (i := 1) rfl)
  have oi_i := hts (.instanceMethod objectInit) (List.mem_of_getElem? (i := 2) rfl)
  have oi_c := hts (.code objectInit ⟨#[0xb1]⟩ 1 none) (List.mem_of_getElem? (i := 3) rfl)
  refine lv_aload_n hx hb dJxa1e45_init_da8c8_0 rfl (lv_at hl 0 rfl) ?_
  refine W.objInit hx hb hown oi_l oi_i oi_c rfl (hl.1.trans hml.symm) rfl dJxa1e45_init_da8c8_1 (Nat.le_of_ble_eq_true rfl) (Nat.le_of_ble_eq_true rfl) ?_
  exact mp_vret hx hb hr hlocks (Nat.le_of_ble_eq_true rfl) (Nat.le_of_ble_eq_true rfl) hM hS dJxa1e45_init_da8c8_4 (⟨rfl, rfl⟩)
abbrev rmJxc12de_init_da8c8 : Room := { frames := 2, cells := 0, slots := 0, locals := 32 }
set_option maxHeartbeats 4000000 in
set_option maxRecDepth 100000 in
theorem c_Jxc12de_init_da8c8 (l : Launch) (X : mp_X) (G : mp_G) (A : Nat → Prop) (M : mp_M) (aq : Nat) (kn : mp_N) (ha : M kn = some (aq, .inr (0, [.int (0 : Int32), .null, .int (0 : Int32)]))) : mp_Met l X G A yJxc12de_init_da8c8 wsJxc12de_init_da8c8 rmJxc12de_init_da8c8 ([.ref aq] : List Value) M (fun r M1 => r = none ∧ M1 = mp_set M kn (aq, .inr (0, [.int (0 : Int32), .null, .int (0 : Int32)]))) 0 0 := by
  refine mp_ofW (cc := cJxc12de_init_da8c8) (maxL := 1) (ret := none) (by decide) rfl (Nat.le_of_ble_eq_true rfl) ?_
  intro p e s m below meth c ls hx hb hr hts hown hlocks hnm hml hC hM hS hl
  have hl : lv_has ls 1 [(0, .ref aq)] := hl
  have hown : s.vm.findClass RJxc12de = some m.cls := hown
  have mi_RJxa1e45 := hts (.initialized RJxa1e45) (List.mem_of_getElem? (i := 4) rfl)
  have mn_Jxa1e45_init_da8c8 := hts (.instanceMethod yJxa1e45_init_da8c8) (List.mem_of_getElem? (i := 3) rfl)
  have ml_1 := hts (.methodLink RJxc12de 1 yJxa1e45_init_da8c8) (List.mem_of_getElem? (i := 2) rfl)
  have hin_wsJx4a65c0 : ∀ w ∈ wsJx4a65c0, w ∈ wsJxc12de_init_da8c8 := fun _ h => List.mem_cons_of_mem _ (List.mem_append_right _ h)
  have fl_7 := hts (.fieldLink RJxc12de 7 "java/util/AbstractList" "modCount" "I") (List.mem_of_getElem? (i := 1) rfl)
  refine lv_aload_n hx hb dJxc12de_init_da8c8_0 rfl (lv_at hl 0 rfl) ?_
  refine mp_callv (va_runI (As := []) (rest := []) ⟨hx, hb, hml, hown, hts⟩ (c_Jxa1e45_init_da8c8 l X G A (M) aq) (cwI 0 hts gJxc12de_init_da8c8_Jxa1e45_init_da8c8 rfl rfl rfl mi_RJxa1e45 ml_1 mn_Jxa1e45_init_da8c8 rfl (by decide +kernel) ⟨Nat.le_of_ble_eq_true rfl, Nat.le_of_ble_eq_true rfl⟩) (mp_preS hC hS hM) rfl rfl hl.1 rfl (lv_room (Nat.le_of_ble_eq_true rfl)) dJxc12de_init_da8c8_1 ⟨Nat.le_of_ble_eq_true rfl, Nat.le_of_ble_eq_true rfl⟩) hS (fun H locs hM hS => ?_)
  refine lv_aload_n hx hb dJxc12de_init_da8c8_4 rfl (lv_at hl 0 rfl) ?_
  refine lv_iconst (v := (0 : Int32)) hx hb dJxc12de_init_da8c8_5 (by decide) ?_
  refine mp_put (D := G.1) (C := RJx4a65c) (T := TJx4a65c) (N := 3) (ci := 0) hx hb hts hin_wsJx4a65c0 tyJx4a65c tyJx4a65c_ok nmJx4a65c hown hC.1 hM hS ha rfl 0 (by decide) fl_7 (fun _ z => z) rfl rfl rfl (Nat.le_of_ble_eq_true rfl) dJxc12de_init_da8c8_6 (fs' := [.int (0 : Int32), .null, .int (0 : Int32)]) rfl (fun H locs hM hS => ?_)
  have hM : mp_P G.1 A (mp_set M kn (aq, .inr (0, [.int (0 : Int32), .null, .int (0 : Int32)]))) H := hM
  exact mp_vret hx hb hr hlocks (Nat.le_of_ble_eq_true rfl) (Nat.le_of_ble_eq_true rfl) hM hS dJxc12de_init_da8c8_9 (⟨rfl, rfl⟩)
abbrev rmJx4a65c_init_da8c8 : Room := { frames := 3, cells := 0, slots := 0, locals := 52 }
set_option maxHeartbeats 4000000 in
set_option maxRecDepth 100000 in
theorem c_Jx4a65c_init_da8c8 (l : Launch) (X : mp_X) (G : mp_G) (A : Nat → Prop) (M : mp_M) (aq : Nat) (kn : mp_N) (ha : M kn = some (aq, .inr (0, [.int (0 : Int32), .null, .int (0 : Int32)]))) : mp_Met l X G A yJx4a65c_init_da8c8 wsJx4a65c_init_da8c8 rmJx4a65c_init_da8c8 ([.ref aq] : List Value) M (fun r M1 => r = none ∧ M1 = mp_set M kn (aq, .inr (0, [.int (0 : Int32), .ref X.1, .int (0 : Int32)]))) 0 0 := by
  refine mp_ofW (cc := cJx4a65c_init_da8c8) (maxL := 1) (ret := none) (by decide) rfl (Nat.le_of_ble_eq_true rfl) ?_
  intro p e s m below meth c ls hx hb hr hts hown hlocks hnm hml hC hM hS hl
  have hl : lv_has ls 1 [(0, .ref aq)] := hl
  have hown : s.vm.findClass RJx4a65c = some m.cls := hown
  have mi_RJxc12de := hts (.initialized RJxc12de) (List.mem_of_getElem? (i := 5) rfl)
  have mn_Jxc12de_init_da8c8 := hts (.instanceMethod yJxc12de_init_da8c8) (List.mem_of_getElem? (i := 4) rfl)
  have ml_1 := hts (.methodLink RJx4a65c 1 yJxc12de_init_da8c8) (List.mem_of_getElem? (i := 3) rfl)
  have fl_39 := hts (.fieldLink RJx4a65c 39 "java/util/ArrayList" "DEFAULTCAPACITY_EMPTY_ELEMENTDATA" "[Ljava/lang/Object;") (List.mem_of_getElem? (i := 1) rfl)
  have hin_wsJx4a65c0 : ∀ w ∈ wsJx4a65c0, w ∈ wsJx4a65c_init_da8c8 := fun _ h => List.mem_cons_of_mem _ (List.mem_append_right _ h)
  have fl_9 := hts (.fieldLink RJx4a65c 9 "java/util/ArrayList" "elementData" "[Ljava/lang/Object;") (List.mem_of_getElem? (i := 2) rfl)
  refine lv_aload_n hx hb dJx4a65c_init_da8c8_0 rfl (lv_at hl 0 rfl) ?_
  refine mp_callv (va_runI (As := []) (rest := []) ⟨hx, hb, hml, hown, hts⟩ (c_Jxc12de_init_da8c8 l X G A M aq kn ha) (cwI 0 hts gJx4a65c_init_da8c8_Jxc12de_init_da8c8 rfl rfl rfl mi_RJxc12de ml_1 mn_Jxc12de_init_da8c8 rfl (by decide +kernel) ⟨Nat.le_of_ble_eq_true rfl, Nat.le_of_ble_eq_true rfl⟩) (mp_preS hC hS hM) rfl rfl hl.1 rfl (lv_room (Nat.le_of_ble_eq_true rfl)) dJx4a65c_init_da8c8_1 ⟨Nat.le_of_ble_eq_true rfl, Nat.le_of_ble_eq_true rfl⟩) hS (fun H locs hM hS => ?_)
  refine lv_aload_n hx hb dJx4a65c_init_da8c8_4 rfl (lv_at hl 0 rfl) ?_
  refine va_gets hx hb hC.2.2.1.1 hS hown fl_39 (fun _ z => z) dJx4a65c_init_da8c8_5 ?_
  refine mp_put (D := G.1) (C := RJx4a65c) (T := TJx4a65c) (N := 3) (ci := 0) hx hb hts hin_wsJx4a65c0 tyJx4a65c tyJx4a65c_ok nmJx4a65c hown hC.1 hM hS (mp_set_s _ _ _) rfl 1 (by decide) fl_9 (fun _ z => z) rfl rfl rfl (Nat.le_of_ble_eq_true rfl) dJx4a65c_init_da8c8_8 (fs' := [.int (0 : Int32), .ref X.1, .int (0 : Int32)]) rfl (fun H locs hM hS => ?_)
  rw [mp_set_set] at hM
  have hM : mp_P G.1 A (mp_set M kn (aq, .inr (0, [.int (0 : Int32), .ref X.1, .int (0 : Int32)]))) H := hM
  exact mp_vret hx hb hr hlocks (Nat.le_of_ble_eq_true rfl) (Nat.le_of_ble_eq_true rfl) hM hS dJx4a65c_init_da8c8_11 (⟨rfl, rfl⟩)
abbrev rmX5_init : Room := { frames := 1, cells := 2, slots := 16, locals := 12 }
set_option maxHeartbeats 4000000 in
set_option maxRecDepth 100000 in
theorem c_X5_init (l : Launch) (X : mp_X) (G : mp_G) (A : Nat → Prop) (M : mp_M) (aq i0 : Nat) (ha : M (4, i0, 0) = some (aq, .inr (6, [.null, .null, .int (0 : Int32)]))) (hk5 : M (5, i0, 0) = none) (hk6 : M (6, i0, 0) = none) : mp_Met l X G A yX5_init wsX5_init rmX5_init ([.ref aq] : List Value) M (fun r M1 => r = none ∧ ∃ ax ay : Nat, M1 = mp_set (mp_set (mp_set M (4, i0, 0) (aq, .inr (6, [.ref ax, .ref ay, .int 0]))) (5, i0, 0) (ax, .inl (G.2.2.1, 8, .inl (fun _ => 0)))) (6, i0, 0) (ay, .inl (G.2.2.1, 8, .inl (fun _ => 0)))) 2 16 := by
  refine mp_ofW (cc := cX5_init) (maxL := 1) (ret := none) (by decide) rfl (Nat.le_of_ble_eq_true rfl) ?_
  intro p e s m below meth c ls hx hb hr hts hown hlocks hnm hml hC hM hS hl
  have hl : lv_has ls 1 [(0, .ref aq)] := hl
  have hown : s.vm.findClass RX5 = some m.cls := hown
  have oi_l := hts (.methodLink RX5 3 objectInit) (List.mem_of_getElem? (i := 1) rfl)
  have oi_i := hts (.instanceMethod objectInit) (List.mem_of_getElem? (i := 2) rfl)
  have oi_c := hts (.code objectInit ⟨#[0xb1]⟩ 1 none) (List.mem_of_getElem? (i := 3) rfl)
  have ac_int := hts (.arrayClass .int) (List.mem_of_getElem? (i := 4) rfl)
  have hin_wsX50 : ∀ w ∈ wsX50, w ∈ wsX5_init := fun _ h => List.mem_cons_of_mem _ (List.mem_append_right _ h)
  have fl_11 := hts (.fieldLink RX5 11 "PlanningBench$Ring" "xs" "[I") (List.mem_of_getElem? (i := 5) rfl)
  have fl_15 := hts (.fieldLink RX5 15 "PlanningBench$Ring" "ys" "[I") (List.mem_of_getElem? (i := 6) rfl)
  have fl_18 := hts (.fieldLink RX5 18 "PlanningBench$Ring" "size" "I") (List.mem_of_getElem? (i := 7) rfl)
  refine lv_aload_n hx hb dX5_init_0 rfl (lv_at hl 0 rfl) ?_
  refine W.objInit hx hb hown oi_l oi_i oi_c rfl (hl.1.trans hml.symm) rfl dX5_init_1 (Nat.le_of_ble_eq_true rfl) (Nat.le_of_ble_eq_true rfl) ?_
  refine lv_aload_n hx hb dX5_init_4 rfl (lv_at hl 0 rfl) ?_
  refine lv_bipush (v := (8 : Int32)) hx hb dX5_init_5 (by decide) ?_
  refine mp_newa (kn := (5, i0, 0)) (atype := .int) (ty := .int) hx hb ac_int rfl hC.1 hM hS hC.2.2.2 1 rfl rfl (a0 := (8, .inl (fun _ => 0))) (fun _ => rfl) (by decide) (N' := 8) (by decide) (by decide) (Nat.le_of_ble_eq_true rfl) (Nat.le_of_ble_eq_true rfl) dX5_init_7 hk5 (fun qa_1 H hM hS => ?_)
  have hM : mp_P G.1 A (mp_set M (5, i0, 0) (qa_1, .inl (G.2.2.1, 8, .inl (fun _ => 0)))) H := hM
  refine mp_putF (D := G.1) (C := RX5) (T := TX5) (N := 3) (ci := 6) hx hb hts hin_wsX50 tyX5 tyX5_ok nmX5 hown hC.1 hM hS ((mp_set_n _ _ _ (by simp)).trans ha) rfl 0 (by decide) fl_11 (fun _ z => z) rfl hnm rfl rfl rfl (Nat.le_of_ble_eq_true rfl) dX5_init_9 (fs' := [.ref qa_1, .null, .int (0 : Int32)]) rfl (fun H locs hM hS => ?_)
  have hM : mp_P G.1 A (mp_set (mp_set M (5, i0, 0) (qa_1, .inl (G.2.2.1, 8, .inl (fun _ => 0)))) (4, i0, 0) (aq, .inr (6, [.ref qa_1, .null, .int (0 : Int32)]))) H := hM
  refine lv_aload_n hx hb dX5_init_12 rfl (lv_at hl 0 rfl) ?_
  refine lv_bipush (v := (8 : Int32)) hx hb dX5_init_13 (by decide) ?_
  refine mp_newa (kn := (6, i0, 0)) (atype := .int) (ty := .int) hx hb ac_int rfl hC.1 hM hS hC.2.2.2 1 rfl rfl (a0 := (8, .inl (fun _ => 0))) (fun _ => rfl) (by decide) (N' := 8) (by decide) (by decide) (Nat.le_of_ble_eq_true rfl) (Nat.le_of_ble_eq_true rfl) dX5_init_15 (by simp [mp_set, hk6]) (fun qa_2 H hM hS => ?_)
  have hM : mp_P G.1 A (mp_set (mp_set (mp_set M (5, i0, 0) (qa_1, .inl (G.2.2.1, 8, .inl (fun _ => 0)))) (4, i0, 0) (aq, .inr (6, [.ref qa_1, .null, .int (0 : Int32)]))) (6, i0, 0) (qa_2, .inl (G.2.2.1, 8, .inl (fun _ => 0)))) H := hM
  refine mp_putF (D := G.1) (C := RX5) (T := TX5) (N := 3) (ci := 6) hx hb hts hin_wsX50 tyX5 tyX5_ok nmX5 hown hC.1 hM hS ((mp_set_n _ _ _ (by simp)).trans (mp_set_s _ _ _)) rfl 1 (by decide) fl_15 (fun _ z => z) rfl hnm rfl rfl rfl (Nat.le_of_ble_eq_true rfl) dX5_init_17 (fs' := [.ref qa_1, .ref qa_2, .int (0 : Int32)]) rfl (fun H locs hM hS => ?_)
  have hM : mp_P G.1 A (mp_set (mp_set (mp_set (mp_set M (5, i0, 0) (qa_1, .inl (G.2.2.1, 8, .inl (fun _ => 0)))) (4, i0, 0) (aq, .inr (6, [.ref qa_1, .null, .int (0 : Int32)]))) (6, i0, 0) (qa_2, .inl (G.2.2.1, 8, .inl (fun _ => 0)))) (4, i0, 0) (aq, .inr (6, [.ref qa_1, .ref qa_2, .int (0 : Int32)]))) H := hM
  refine lv_aload_n hx hb dX5_init_20 rfl (lv_at hl 0 rfl) ?_
  refine lv_iconst (v := (0 : Int32)) hx hb dX5_init_21 (by decide) ?_
  refine mp_put (D := G.1) (C := RX5) (T := TX5) (N := 3) (ci := 6) hx hb hts hin_wsX50 tyX5 tyX5_ok nmX5 hown hC.1 hM hS (mp_set_s _ _ _) rfl 2 (by decide) fl_18 (fun _ z => z) rfl rfl rfl (Nat.le_of_ble_eq_true rfl) dX5_init_22 (fs' := [.ref qa_1, .ref qa_2, .int (0 : Int32)]) rfl (fun H locs hM hS => ?_)
  rw [mp_set_set] at hM
  have hM : mp_P G.1 A (mp_set (mp_set (mp_set (mp_set M (5, i0, 0) (qa_1, .inl (G.2.2.1, 8, .inl (fun _ => 0)))) (4, i0, 0) (aq, .inr (6, [.ref qa_1, .null, .int (0 : Int32)]))) (6, i0, 0) (qa_2, .inl (G.2.2.1, 8, .inl (fun _ => 0)))) (4, i0, 0) (aq, .inr (6, [.ref qa_1, .ref qa_2, .int (0 : Int32)]))) H := hM
  exact mp_vret hx hb hr hlocks (Nat.le_of_ble_eq_true rfl) (Nat.le_of_ble_eq_true rfl) hM hS dX5_init_25 (⟨rfl, qa_1, qa_2, by funext z; simp only [mp_set]; (repeat (first | rfl | split)) <;> simp_all⟩)
abbrev rmX4_isBlank : Room := { frames := 0, cells := 0, slots := 0, locals := 0 }
set_option maxHeartbeats 4000000 in
set_option maxRecDepth 100000 in
theorem c_X4_isBlank (l : Launch) (X : mp_X) (G : mp_G) (A : Nat → Prop) (M : mp_M) (x : Int32) : mp_Met l X G A yX4_isBlank wsX4_isBlank rmX4_isBlank ([.int x] : List Value) M (fun r M1 => r = some (.int (bI (pB (x = 32 ∨ x = 10)))) ∧ M1 = M) 0 0 := by
  refine mp_ofW (cc := cX4_isBlank) (maxL := 1) (ret := (some .boolean)) (by decide) rfl (Nat.le_of_ble_eq_true rfl) ?_
  intro p e s m below meth c ls hx hb hr hts hown hlocks hnm hml hC hM hS hl
  have hl : lv_has ls 1 [(0, .int x)] := hl
  have hown : s.vm.findClass RX4 = some m.cls := hown
  refine lv_iload_n hx hb dX4_isBlank_0 rfl (lv_at hl 0 rfl) ?_
  refine lv_bipush (v := (32 : Int32)) hx hb dX4_isBlank_1 (by decide) ?_
  refine lv_icmp_eq (tgt := 12) hx hb dX4_isBlank_3 (by decide) (fun c1 => ?_) (fun c1 => ?_)
  · have c1 := c1
    refine lv_iconst (v := (1 : Int32)) hx hb dX4_isBlank_12 (by decide) ?_
    refine lv_goto (tgt := 17) hx hb dX4_isBlank_13 (by decide) ?_
    exact mp_zret hx hb hr hlocks (Nat.le_of_ble_eq_true rfl) (Nat.le_of_ble_eq_true rfl) hM hS dX4_isBlank_17 (by first | rfl | exact bI_nar _) (⟨by first | exact b1 (Or.inl c1) | exact b1 (Or.inr c3) | exact b0 (fun q => q.elim c1 c3), rfl⟩)
  · have c1 := c1
    refine lv_iload_n hx hb dX4_isBlank_6 rfl (lv_at hl 0 rfl) ?_
    refine lv_bipush (v := (10 : Int32)) hx hb dX4_isBlank_7 (by decide) ?_
    refine lv_icmp_ne (tgt := 16) hx hb dX4_isBlank_9 (by decide) (fun c3 => ?_) (fun c3 => ?_)
    · have c3 := c3
      refine lv_iconst (v := (0 : Int32)) hx hb dX4_isBlank_16 (by decide) ?_
      exact mp_zret hx hb hr hlocks (Nat.le_of_ble_eq_true rfl) (Nat.le_of_ble_eq_true rfl) hM hS dX4_isBlank_17 (by first | rfl | exact bI_nar _) (⟨by first | exact b1 (Or.inl c1) | exact b1 (Or.inr c3) | exact b0 (fun q => q.elim c1 c3), rfl⟩)
    · have c3 := c3
      refine lv_iconst (v := (1 : Int32)) hx hb dX4_isBlank_12 (by decide) ?_
      refine lv_goto (tgt := 17) hx hb dX4_isBlank_13 (by decide) ?_
      exact mp_zret hx hb hr hlocks (Nat.le_of_ble_eq_true rfl) (Nat.le_of_ble_eq_true rfl) hM hS dX4_isBlank_17 (by first | rfl | exact bI_nar _) (⟨by first | exact b1 (Or.inl c1) | exact b1 (Or.inr c3) | exact b0 (fun q => q.elim c1 c3), rfl⟩)
abbrev rmX4_isLetter : Room := { frames := 0, cells := 0, slots := 0, locals := 0 }
set_option maxHeartbeats 4000000 in
set_option maxRecDepth 100000 in
theorem c_X4_isLetter (l : Launch) (X : mp_X) (G : mp_G) (A : Nat → Prop) (M : mp_M) (x : Int32) : mp_Met l X G A yX4_isLetter wsX4_isLetter rmX4_isLetter ([.int x] : List Value) M (fun r M1 => r = some (.int (bI (pB (md_in x 97 122)))) ∧ M1 = M) 0 0 := by
  refine mp_ofW (cc := cX4_isLetter) (maxL := 1) (ret := (some .boolean)) (by decide) rfl (Nat.le_of_ble_eq_true rfl) ?_
  intro p e s m below meth c ls hx hb hr hts hown hlocks hnm hml hC hM hS hl
  have hl : lv_has ls 1 [(0, .int x)] := hl
  have hown : s.vm.findClass RX4 = some m.cls := hown
  refine lv_iload_n hx hb dX4_isLetter_0 rfl (lv_at hl 0 rfl) ?_
  refine lv_bipush (v := (97 : Int32)) hx hb dX4_isLetter_1 (by decide) ?_
  refine lv_icmp_lt (tgt := 16) hx hb dX4_isLetter_3 (by decide) (fun c1 => ?_) (fun c1 => ?_)
  · have c1 := c1
    refine lv_iconst (v := (0 : Int32)) hx hb dX4_isLetter_16 (by decide) ?_
    exact mp_zret hx hb hr hlocks (Nat.le_of_ble_eq_true rfl) (Nat.le_of_ble_eq_true rfl) hM hS dX4_isLetter_17 (by first | rfl | exact bI_nar _) (⟨by first | exact b1 ⟨i_nlt.mp c1, i_nlt.mp c3⟩ | exact b0 (fun q => absurd q.1 (i_nle.mpr c1)) | exact b0 (fun q => absurd q.2 (i_nle.mpr c3)), rfl⟩)
  · have c1 := c1
    refine lv_iload_n hx hb dX4_isLetter_6 rfl (lv_at hl 0 rfl) ?_
    refine lv_bipush (v := (122 : Int32)) hx hb dX4_isLetter_7 (by decide) ?_
    refine lv_icmp_gt (tgt := 16) hx hb dX4_isLetter_9 (by decide) (fun c3 => ?_) (fun c3 => ?_)
    · have c3 := c3
      refine lv_iconst (v := (0 : Int32)) hx hb dX4_isLetter_16 (by decide) ?_
      exact mp_zret hx hb hr hlocks (Nat.le_of_ble_eq_true rfl) (Nat.le_of_ble_eq_true rfl) hM hS dX4_isLetter_17 (by first | rfl | exact bI_nar _) (⟨by first | exact b1 ⟨i_nlt.mp c1, i_nlt.mp c3⟩ | exact b0 (fun q => absurd q.1 (i_nle.mpr c1)) | exact b0 (fun q => absurd q.2 (i_nle.mpr c3)), rfl⟩)
    · have c3 := c3
      refine lv_iconst (v := (1 : Int32)) hx hb dX4_isLetter_12 (by decide) ?_
      refine lv_goto (tgt := 17) hx hb dX4_isLetter_13 (by decide) ?_
      exact mp_zret hx hb hr hlocks (Nat.le_of_ble_eq_true rfl) (Nat.le_of_ble_eq_true rfl) hM hS dX4_isLetter_17 (by first | rfl | exact bI_nar _) (⟨by first | exact b1 ⟨i_nlt.mp c1, i_nlt.mp c3⟩ | exact b0 (fun q => absurd q.1 (i_nle.mpr c1)) | exact b0 (fun q => absurd q.2 (i_nle.mpr c3)), rfl⟩)
abbrev rmX4_isDigit : Room := { frames := 0, cells := 0, slots := 0, locals := 0 }
set_option maxHeartbeats 4000000 in
set_option maxRecDepth 100000 in
theorem c_X4_isDigit (l : Launch) (X : mp_X) (G : mp_G) (A : Nat → Prop) (M : mp_M) (x : Int32) : mp_Met l X G A yX4_isDigit wsX4_isDigit rmX4_isDigit ([.int x] : List Value) M (fun r M1 => r = some (.int (bI (pB (md_in x 48 57)))) ∧ M1 = M) 0 0 := by
  refine mp_ofW (cc := cX4_isDigit) (maxL := 1) (ret := (some .boolean)) (by decide) rfl (Nat.le_of_ble_eq_true rfl) ?_
  intro p e s m below meth c ls hx hb hr hts hown hlocks hnm hml hC hM hS hl
  have hl : lv_has ls 1 [(0, .int x)] := hl
  have hown : s.vm.findClass RX4 = some m.cls := hown
  refine lv_iload_n hx hb dX4_isDigit_0 rfl (lv_at hl 0 rfl) ?_
  refine lv_bipush (v := (48 : Int32)) hx hb dX4_isDigit_1 (by decide) ?_
  refine lv_icmp_lt (tgt := 16) hx hb dX4_isDigit_3 (by decide) (fun c1 => ?_) (fun c1 => ?_)
  · have c1 := c1
    refine lv_iconst (v := (0 : Int32)) hx hb dX4_isDigit_16 (by decide) ?_
    exact mp_zret hx hb hr hlocks (Nat.le_of_ble_eq_true rfl) (Nat.le_of_ble_eq_true rfl) hM hS dX4_isDigit_17 (by first | rfl | exact bI_nar _) (⟨by first | exact b1 ⟨i_nlt.mp c1, i_nlt.mp c3⟩ | exact b0 (fun q => absurd q.1 (i_nle.mpr c1)) | exact b0 (fun q => absurd q.2 (i_nle.mpr c3)), rfl⟩)
  · have c1 := c1
    refine lv_iload_n hx hb dX4_isDigit_6 rfl (lv_at hl 0 rfl) ?_
    refine lv_bipush (v := (57 : Int32)) hx hb dX4_isDigit_7 (by decide) ?_
    refine lv_icmp_gt (tgt := 16) hx hb dX4_isDigit_9 (by decide) (fun c3 => ?_) (fun c3 => ?_)
    · have c3 := c3
      refine lv_iconst (v := (0 : Int32)) hx hb dX4_isDigit_16 (by decide) ?_
      exact mp_zret hx hb hr hlocks (Nat.le_of_ble_eq_true rfl) (Nat.le_of_ble_eq_true rfl) hM hS dX4_isDigit_17 (by first | rfl | exact bI_nar _) (⟨by first | exact b1 ⟨i_nlt.mp c1, i_nlt.mp c3⟩ | exact b0 (fun q => absurd q.1 (i_nle.mpr c1)) | exact b0 (fun q => absurd q.2 (i_nle.mpr c3)), rfl⟩)
    · have c3 := c3
      refine lv_iconst (v := (1 : Int32)) hx hb dX4_isDigit_12 (by decide) ?_
      refine lv_goto (tgt := 17) hx hb dX4_isDigit_13 (by decide) ?_
      exact mp_zret hx hb hr hlocks (Nat.le_of_ble_eq_true rfl) (Nat.le_of_ble_eq_true rfl) hM hS dX4_isDigit_17 (by first | rfl | exact bI_nar _) (⟨by first | exact b1 ⟨i_nlt.mp c1, i_nlt.mp c3⟩ | exact b0 (fun q => absurd q.1 (i_nle.mpr c1)) | exact b0 (fun q => absurd q.2 (i_nle.mpr c3)), rfl⟩)
