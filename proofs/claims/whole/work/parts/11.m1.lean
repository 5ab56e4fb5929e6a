/-! ===== the reference, method by method: numbers and places ===== -/
def md_in (v lo hi : Int32) : Prop := lo ≤ v ∧ v ≤ hi
def md_rg (f : Nat → Nat → Int32) (r : Nat) (cn : Nat) : rg_R := (sh (f 7) (8 * r), sh (f 8) (8 * r), cn)
def md_day (n : Nat → Int32) (d : Int32) : Prop := n 0 < d ∧ d ≤ 9999
noncomputable def md_dayN (n : Nat → Int32) (d : Int32) : Nat → Int32 := if pB (md_day n d) then upd n 0 d else n
abbrev rmX8_isIn : Room := { frames := 0, cells := 0, slots := 0, locals := 0 }
set_option maxHeartbeats 4000000 in
set_option maxRecDepth 100000 in
theorem c_X8_isIn (l : Launch) (X : mp_X) (G : mp_G) (A : Nat → Prop) (M : mp_M) (v lo hi : Int32) : mp_Met l X G A yX8_isIn wsX8_isIn rmX8_isIn ([.int v, .int lo, .int hi] : List Value) M (fun r M1 => r = some (.int (bI (pB (md_in v lo hi)))) ∧ M1 = M) 0 0 := by
  refine mp_ofW (cc := cX8_isIn) (maxL := 3) (ret := (some .boolean)) (by decide) rfl (by decide) ?_
  intro p e s m below meth c ls hx hb hr hts hown hlocks hnm hml hC hM hS hl
  have hl : lv_has ls 3 [(0, .int v), (1, .int lo), (2, .int hi)] := hl
  have hown : s.vm.findClass RX8 = some m.cls := hown
  refine lv_iload_n hx hb dX8_isIn_0 rfl (lv_at hl 0 rfl) ?_
  refine lv_iload_n hx hb dX8_isIn_1 rfl (lv_at hl 1 rfl) ?_
  refine lv_icmp_lt (tgt := 14) hx hb dX8_isIn_2 (by decide) (fun c_1 => ?_) (fun c_1 => ?_)
  · have c_1 := c_1
    refine lv_iconst (v := (0 : Int32)) hx hb dX8_isIn_14 (by decide) ?_
    exact mp_zret hx hb hr hlocks (Nat.le_of_ble_eq_true rfl) (Nat.le_of_ble_eq_true rfl) hM hS dX8_isIn_15 (by first | rfl | exact bI_nar _) (⟨by first | exact b1 ⟨i_nlt.mp c_1, i_nlt.mp c_2⟩ | exact b0 (fun q => absurd q.1 (i_nle.mpr c_1)) | exact b0 (fun q => absurd q.2 (i_nle.mpr c_2)), rfl⟩)
  · have c_1 := c_1
    refine lv_iload_n hx hb dX8_isIn_5 rfl (lv_at hl 0 rfl) ?_
    refine lv_iload_n hx hb dX8_isIn_6 rfl (lv_at hl 2 rfl) ?_
    refine lv_icmp_gt (tgt := 14) hx hb dX8_isIn_7 (by decide) (fun c_2 => ?_) (fun c_2 => ?_)
    · have c_2 := c_2
      refine lv_iconst (v := (0 : Int32)) hx hb dX8_isIn_14 (by decide) ?_
      exact mp_zret hx hb hr hlocks (Nat.le_of_ble_eq_true rfl) (Nat.le_of_ble_eq_true rfl) hM hS dX8_isIn_15 (by first | rfl | exact bI_nar _) (⟨by first | exact b1 ⟨i_nlt.mp c_1, i_nlt.mp c_2⟩ | exact b0 (fun q => absurd q.1 (i_nle.mpr c_1)) | exact b0 (fun q => absurd q.2 (i_nle.mpr c_2)), rfl⟩)
    · have c_2 := c_2
      refine lv_iconst (v := (1 : Int32)) hx hb dX8_isIn_10 (by decide) ?_
      refine lv_goto (tgt := 15) hx hb dX8_isIn_11 (by decide) ?_
      exact mp_zret hx hb hr hlocks (Nat.le_of_ble_eq_true rfl) (Nat.le_of_ble_eq_true rfl) hM hS dX8_isIn_15 (by first | rfl | exact bI_nar _) (⟨by first | exact b1 ⟨i_nlt.mp c_1, i_nlt.mp c_2⟩ | exact b0 (fun q => absurd q.1 (i_nle.mpr c_1)) | exact b0 (fun q => absurd q.2 (i_nle.mpr c_2)), rfl⟩)
abbrev rmX8_isDay : Room := { frames := 1, cells := 0, slots := 0, locals := 22 }
set_option maxHeartbeats 4000000 in
set_option maxRecDepth 100000 in
theorem c_X8_isDay (l : Launch) (X : mp_X) (G : mp_G) (A : Nat → Prop) (M : mp_M) (d : Int32) : mp_Met l X G A yX8_isDay wsX8_isDay rmX8_isDay ([.int d] : List Value) M (fun r M1 => r = some (.int (bI (pB (md_in d 0 9999)))) ∧ M1 = M) 0 0 := by
  refine mp_ofW (cc := cX8_isDay) (maxL := 1) (ret := (some .boolean)) (by decide) rfl (by decide) ?_
  intro p e s m below meth c ls hx hb hr hts hown hlocks hnm hml hC hM hS hl
  have hl : lv_has ls 1 [(0, .int d)] := hl
  have hown : s.vm.findClass RX8 = some m.cls := hown
  refine lv_iload_n hx hb dX8_isDay_0 rfl (lv_at hl 0 rfl) ?_
  refine lv_iconst (v := (0 : Int32)) hx hb dX8_isDay_1 (by decide) ?_
  refine lv_sipush (v := (9999 : Int32)) hx hb dX8_isDay_2 (by decide) ?_
  refine mp_calli (va_runS (As := [.int d, .int (0 : Int32), .int (9999 : Int32)]) (rest := []) ⟨hx, hb, hml, hown, hts⟩ (c_X8_isIn l X G A (M) d (0 : Int32) (9999 : Int32)) (va_cwS 3 hts gX8_isDay_X8_isIn rfl rfl rfl (by decide +kernel) ⟨Nat.le_of_ble_eq_true rfl, Nat.le_of_ble_eq_true rfl⟩) (mp_preS hC hS hM) rfl rfl hl.1 rfl (lv_room (Nat.le_of_ble_eq_true rfl)) dX8_isDay_5 ⟨Nat.le_of_ble_eq_true rfl, Nat.le_of_ble_eq_true rfl⟩) hS (fun H locs hM hS => ?_)
  exact mp_zret hx hb hr hlocks (Nat.le_of_ble_eq_true rfl) (Nat.le_of_ble_eq_true rfl) hM hS dX8_isDay_8 (bI_nar _) (⟨rfl, rfl⟩)
abbrev rmX8_isPlot : Room := { frames := 1, cells := 0, slots := 0, locals := 22 }
set_option maxHeartbeats 4000000 in
set_option maxRecDepth 100000 in
theorem c_X8_isPlot (l : Launch) (X : mp_X) (G : mp_G) (A : Nat → Prop) (B : mp_M) (h : Nat) (ad : Nat → Nat) (n : Nat → Int32) (f : Nat → Nat → Int32) (q : Int32) : mp_Met l X G A yX8_isPlot wsX8_isPlot rmX8_isPlot ([.ref h, .int q] : List Value) (md_M G B h ad n f) (fun r M1 => r = some (.int (bI (pB (md_in q 0 (n 1 - 1))))) ∧ M1 = md_M G B h ad n f) 0 0 := by
  refine mp_ofW (cc := cX8_isPlot) (maxL := 2) (ret := (some .boolean)) (by decide) rfl (by decide) ?_
  intro p e s m below meth c ls hx hb hr hts hown hlocks hnm hml hC hM hS hl
  have hl : lv_has ls 2 [(0, .ref h), (1, .int q)] := hl
  have hown : s.vm.findClass RX8 = some m.cls := hown
  have fl_119 := hts (.fieldLink RX8 119 "PlanningBenchModel" "plots" "I") (List.mem_of_getElem? (i := 1) rfl)
  have hin_wsX80 : ∀ w ∈ wsX80, w ∈ wsX8_isPlot := fun _ h => List.mem_cons_of_mem _ (List.mem_append_right _ h)
  refine lv_iload_n hx hb dX8_isPlot_0 rfl (lv_at hl 1 rfl) ?_
  refine lv_iconst (v := (0 : Int32)) hx hb dX8_isPlot_1 (by decide) ?_
  refine lv_aload_n hx hb dX8_isPlot_2 rfl (lv_at hl 0 rfl) ?_
  refine md_geti hx hb hts hin_wsX80 hown hC hM 1 (by decide) rfl fl_119 dX8_isPlot_3 ?_
  refine lv_iconst (v := (1 : Int32)) hx hb dX8_isPlot_6 (by decide) ?_
  refine lv_isub hx hb dX8_isPlot_7 ?_
  refine mp_calli (va_runS (As := [.int q, .int (0 : Int32), .int ((n 1) - (1 : Int32))]) (rest := []) ⟨hx, hb, hml, hown, hts⟩ (c_X8_isIn l X G A (md_M G B h ad n f) q (0 : Int32) ((n 1) - (1 : Int32))) (va_cwS 3 hts gX8_isPlot_X8_isIn rfl rfl rfl (by decide +kernel) ⟨Nat.le_of_ble_eq_true rfl, Nat.le_of_ble_eq_true rfl⟩) (mp_preS hC hS hM) rfl rfl hl.1 rfl (lv_room (Nat.le_of_ble_eq_true rfl)) dX8_isPlot_8 ⟨Nat.le_of_ble_eq_true rfl, Nat.le_of_ble_eq_true rfl⟩) hS (fun H locs hM hS => ?_)
  exact mp_zret hx hb hr hlocks (Nat.le_of_ble_eq_true rfl) (Nat.le_of_ble_eq_true rfl) hM hS dX8_isPlot_11 (bI_nar _) (⟨rfl, rfl⟩)
abbrev rmX8_isApplication : Room := { frames := 1, cells := 0, slots := 0, locals := 22 }
set_option maxHeartbeats 4000000 in
set_option maxRecDepth 100000 in
theorem c_X8_isApplication (l : Launch) (X : mp_X) (G : mp_G) (A : Nat → Prop) (B : mp_M) (h : Nat) (ad : Nat → Nat) (n : Nat → Int32) (f : Nat → Nat → Int32) (q : Int32) : mp_Met l X G A yX8_isApplication wsX8_isApplication rmX8_isApplication ([.ref h, .int q] : List Value) (md_M G B h ad n f) (fun r M1 => r = some (.int (bI (pB (md_in q 0 (n 4 - 1))))) ∧ M1 = md_M G B h ad n f) 0 0 := by
  refine mp_ofW (cc := cX8_isApplication) (maxL := 2) (ret := (some .boolean)) (by decide) rfl (by decide) ?_
  intro p e s m below meth c ls hx hb hr hts hown hlocks hnm hml hC hM hS hl
  have hl : lv_has ls 2 [(0, .ref h), (1, .int q)] := hl
  have hown : s.vm.findClass RX8 = some m.cls := hown
  have fl_122 := hts (.fieldLink RX8 122 "PlanningBenchModel" "applications" "I") (List.mem_of_getElem? (i := 1) rfl)
  have hin_wsX80 : ∀ w ∈ wsX80, w ∈ wsX8_isApplication := fun _ h => List.mem_cons_of_mem _ (List.mem_append_right _ h)
  refine lv_iload_n hx hb dX8_isApplication_0 rfl (lv_at hl 1 rfl) ?_
  refine lv_iconst (v := (0 : Int32)) hx hb dX8_isApplication_1 (by decide) ?_
  refine lv_aload_n hx hb dX8_isApplication_2 rfl (lv_at hl 0 rfl) ?_
  refine md_geti hx hb hts hin_wsX80 hown hC hM 4 (by decide) rfl fl_122 dX8_isApplication_3 ?_
  refine lv_iconst (v := (1 : Int32)) hx hb dX8_isApplication_6 (by decide) ?_
  refine lv_isub hx hb dX8_isApplication_7 ?_
  refine mp_calli (va_runS (As := [.int q, .int (0 : Int32), .int ((n 4) - (1 : Int32))]) (rest := []) ⟨hx, hb, hml, hown, hts⟩ (c_X8_isIn l X G A (md_M G B h ad n f) q (0 : Int32) ((n 4) - (1 : Int32))) (va_cwS 3 hts gX8_isApplication_X8_isIn rfl rfl rfl (by decide +kernel) ⟨Nat.le_of_ble_eq_true rfl, Nat.le_of_ble_eq_true rfl⟩) (mp_preS hC hS hM) rfl rfl hl.1 rfl (lv_room (Nat.le_of_ble_eq_true rfl)) dX8_isApplication_8 ⟨Nat.le_of_ble_eq_true rfl, Nat.le_of_ble_eq_true rfl⟩) hS (fun H locs hM hS => ?_)
  exact mp_zret hx hb hr hlocks (Nat.le_of_ble_eq_true rfl) (Nat.le_of_ble_eq_true rfl) hM hS dX8_isApplication_11 (bI_nar _) (⟨rfl, rfl⟩)
abbrev rmX8_day : Room := { frames := 0, cells := 0, slots := 0, locals := 0 }
set_option maxHeartbeats 4000000 in
set_option maxRecDepth 100000 in
theorem c_X8_day (l : Launch) (X : mp_X) (G : mp_G) (A : Nat → Prop) (B : mp_M) (h : Nat) (ad : Nat → Nat) (n : Nat → Int32) (f : Nat → Nat → Int32) (d : Int32) : mp_Met l X G A yX8_day wsX8_day rmX8_day ([.ref h, .int d] : List Value) (md_M G B h ad n f) (fun r M1 => r = some (.int (bI (pB (md_day n d)))) ∧ M1 = md_M G B h ad (md_dayN n d) f) 0 0 := by
  refine mp_ofW (cc := cX8_day) (maxL := 2) (ret := (some .boolean)) (by decide) rfl (by decide) ?_
  intro p e s m below meth c ls hx hb hr hts hown hlocks hnm hml hC hM hS hl
  have hl : lv_has ls 2 [(0, .ref h), (1, .int d)] := hl
  have hown : s.vm.findClass RX8 = some m.cls := hown
  have fl_125 := hts (.fieldLink RX8 125 "PlanningBenchModel" "today" "I") (List.mem_of_getElem? (i := 1) rfl)
  have hin_wsX80 : ∀ w ∈ wsX80, w ∈ wsX8_day := fun _ h => List.mem_cons_of_mem _ (List.mem_append_right _ h)
  refine lv_iload_n hx hb dX8_day_0 rfl (lv_at hl 1 rfl) ?_
  refine lv_aload_n hx hb dX8_day_1 rfl (lv_at hl 0 rfl) ?_
  refine md_geti hx hb hts hin_wsX80 hown hC hM 0 (by decide) rfl fl_125 dX8_day_2 ?_
  refine lv_icmp_le (tgt := 15) hx hb dX8_day_5 (by decide) (fun c1 => ?_) (fun c1 => ?_)
  · have c1 := c1
    refine lv_iconst (v := (0 : Int32)) hx hb dX8_day_15 (by decide) ?_
    exact mp_zret hx hb hr hlocks (Nat.le_of_ble_eq_true rfl) (Nat.le_of_ble_eq_true rfl) hM hS dX8_day_16 (by first | rfl | exact bI_nar _) (have q : ¬ md_day n d := (fun q => by first | exact absurd q.1 (i_nlt.mpr c1) | exact absurd q.2 (i_nle.mpr c2)); ⟨b0 q, by rw [md_dayN, pB_f q]; rfl⟩)
  · have c1 := c1
    refine lv_iload_n hx hb dX8_day_8 rfl (lv_at hl 1 rfl) ?_
    refine lv_sipush (v := (9999 : Int32)) hx hb dX8_day_9 (by decide) ?_
    refine lv_icmp_le (tgt := 17) hx hb dX8_day_12 (by decide) (fun c_1 => ?_) (fun c_1 => ?_)
    · have c_1 := c_1
      refine lv_aload_n hx hb dX8_day_17 rfl (lv_at hl 0 rfl) ?_
      refine lv_iload_n hx hb dX8_day_18 rfl (lv_at hl 1 rfl) ?_
      refine md_puti hx hb hts hin_wsX80 hown hC hM hS 0 (by decide) rfl rfl rfl fl_125 dX8_day_19 (fun H locs hM hS => ?_)
      refine lv_iconst (v := (1 : Int32)) hx hb dX8_day_22 (by decide) ?_
      exact mp_zret hx hb hr hlocks (Nat.le_of_ble_eq_true rfl) (Nat.le_of_ble_eq_true rfl) hM hS dX8_day_23 (by first | rfl | exact bI_nar _) (⟨b1 ⟨i_nle.mp c1, i_nlt.mp c2⟩, by rw [md_dayN, pB_t ⟨i_nle.mp c1, i_nlt.mp c2⟩]; rfl⟩)
    · have c_1 := c_1
      refine lv_iconst (v := (0 : Int32)) hx hb dX8_day_15 (by decide) ?_
      exact mp_zret hx hb hr hlocks (Nat.le_of_ble_eq_true rfl) (Nat.le_of_ble_eq_true rfl) hM hS dX8_day_16 (by first | rfl | exact bI_nar _) (have q : ¬ md_day n d := (fun q => by first | exact absurd q.1 (i_nlt.mpr c1) | exact absurd q.2 (i_nle.mpr c2)); ⟨b0 q, by rw [md_dayN, pB_f q]; rfl⟩)
abbrev rmX8_left : Room := { frames := 0, cells := 0, slots := 0, locals := 0 }
set_option maxHeartbeats 4000000 in
set_option maxRecDepth 100000 in
theorem c_X8_left (l : Launch) (X : mp_X) (G : mp_G) (A : Nat → Prop) (B : mp_M) (h : Nat) (ad : Nat → Nat) (n : Nat → Int32) (f : Nat → Nat → Int32) (r sd cn : Nat) (x y : Int32) (hr9 : r < 13) (hs9 : sd < 8) (hc0 : 0 < cn) (hc8 : cn ≤ 8) (hcn : f 6 r = nI cn) : mp_Met l X G A yX8_left wsX8_left rmX8_left ([.ref h, .int (nI r), .int (nI sd), .int x, .int y] : List Value) (md_M G B h ad n f) (fun v M1 => v = some (.int (rg_side (md_rg f r cn) sd x y)) ∧ M1 = md_M G B h ad n f) 0 0 := by
  refine mp_ofW (cc := cX8_left) (maxL := 7) (ret := (some .int)) (by decide) rfl (by decide) ?_
  intro p e s m below meth c ls hx hb hr hts hown hlocks hnm hml hC hM hS hl
  have hl : lv_has ls 7 [(0, .ref h), (1, .int (nI r)), (2, .int (nI sd)), (3, .int x), (4, .int y)] := hl
  have hown : s.vm.findClass RX8 = some m.cls := hown
  have fl_7 := hts (.fieldLink RX8 7 "PlanningBenchModel" "corners" "[I") (List.mem_of_getElem? (i := 1) rfl)
  have hin_wsX80 : ∀ w ∈ wsX80, w ∈ wsX8_left := fun _ h => List.mem_cons_of_mem _ (List.mem_append_right _ h)
  have fl_13 := hts (.fieldLink RX8 13 "PlanningBenchModel" "xs" "[I") (List.mem_of_getElem? (i := 2) rfl)
  have fl_16 := hts (.fieldLink RX8 16 "PlanningBenchModel" "ys" "[I") (List.mem_of_getElem? (i := 3) rfl)
  have hmod : (sd + 1) % cn < cn := Nat.mod_lt _ hc0
  refine lv_bipush (v := (8 : Int32)) hx hb dX8_left_0 (by decide) ?_
  refine lv_iload_n hx hb dX8_left_2 rfl (lv_at hl 1 rfl) ?_
  refine lv_imul hx hb dX8_left_3 ?_
  refine mp_top (nI (8 * r)) (pk_mul 8 r) ?_
  refine lv_iload_n hx hb dX8_left_4 rfl (lv_at hl 2 rfl) ?_
  refine lv_iadd hx hb dX8_left_5 ?_
  refine mp_top (nI ((8 * r) + sd)) (nI_add (8 * r) sd) ?_
  refine lv_istore (lv' := [(5, .int (nI ((8 * r) + sd))), (0, .ref h), (1, .int (nI r)), (2, .int (nI sd)), (3, .int x), (4, .int y)]) hx hb dX8_left_6 hl (by decide) rfl (fun ls hl => ?_)
  refine lv_bipush (v := (8 : Int32)) hx hb dX8_left_8 (by decide) ?_
  refine lv_iload_n hx hb dX8_left_10 rfl (lv_at hl 2 rfl) ?_
  refine lv_imul hx hb dX8_left_11 ?_
  refine mp_top (nI (8 * r)) (pk_mul 8 r) ?_
  refine lv_iload_n hx hb dX8_left_12 rfl (lv_at hl 3 rfl) ?_
  refine lv_iconst (v := (1 : Int32)) hx hb dX8_left_13 (by decide) ?_
  refine lv_iadd hx hb dX8_left_14 ?_
  refine mp_top (nI (sd + 1)) (nI_add sd 1) ?_
  refine lv_aload_n hx hb dX8_left_15 rfl (lv_at hl 1 rfl) ?_
  refine md_getr hx hb hts hin_wsX80 hown hC hM 6 (by decide) rfl fl_7 dX8_left_16 ?_
  refine lv_iload_n hx hb dX8_left_19 rfl (lv_at hl 2 rfl) ?_
  refine md_iald hx hb hC hM 6 rfl (j := r) (by omega) (by decide) dX8_left_20 ?_
  refine mp_top (nI cn) hcn ?_
  refine lv_irem hx hb dX8_left_21 (nI_ne0 (by omega) (by omega)) ?_
  refine mp_top (nI ((sd + 1) % cn)) (pk_rem (by omega) (by omega) (by omega)) ?_
  refine lv_iadd hx hb dX8_left_22 ?_
  refine mp_top (nI ((8 * r) + ((sd + 1) % cn))) (nI_add (8 * r) ((sd + 1) % cn)) ?_
  refine lv_istore (lv' := [(6, .int (nI ((8 * r) + ((sd + 1) % cn)))), (5, .int (nI ((8 * r) + sd))), (0, .ref h), (1, .int (nI r)), (2, .int (nI sd)), (3, .int x), (4, .int y)]) hx hb dX8_left_23 hl (by decide) rfl (fun ls hl => ?_)
  refine lv_aload_n hx hb dX8_left_25 rfl (lv_at hl 2 rfl) ?_
  refine md_getr hx hb hts hin_wsX80 hown hC hM 7 (by decide) rfl fl_13 dX8_left_26 ?_
  refine lv_iload hx hb dX8_left_29 (lv_at hl 0 rfl) ?_
  refine md_iald hx hb hC hM 7 rfl (j := (8 * r) + ((sd + 1) % cn)) (by omega) (by decide) dX8_left_31 ?_
  refine lv_aload_n hx hb dX8_left_32 rfl (lv_at hl 2 rfl) ?_
  refine md_getr hx hb hts hin_wsX80 hown hC hM 7 (by decide) rfl fl_13 dX8_left_33 ?_
  refine lv_iload hx hb dX8_left_36 (lv_at hl 1 rfl) ?_
  refine md_iald hx hb hC hM 7 rfl (j := (8 * r) + sd) (by omega) (by decide) dX8_left_38 ?_
  refine lv_isub hx hb dX8_left_39 ?_
  refine lv_iload hx hb dX8_left_40 (lv_at hl 6 rfl) ?_
  refine lv_aload_n hx hb dX8_left_42 rfl (lv_at hl 2 rfl) ?_
  refine md_getr hx hb hts hin_wsX80 hown hC hM 8 (by decide) rfl fl_16 dX8_left_43 ?_
  refine lv_iload hx hb dX8_left_46 (lv_at hl 1 rfl) ?_
  refine md_iald hx hb hC hM 8 rfl (j := (8 * r) + sd) (by omega) (by decide) dX8_left_48 ?_
  refine lv_isub hx hb dX8_left_49 ?_
  refine lv_imul hx hb dX8_left_50 ?_
  refine lv_aload_n hx hb dX8_left_51 rfl (lv_at hl 2 rfl) ?_
  refine md_getr hx hb hts hin_wsX80 hown hC hM 8 (by decide) rfl fl_16 dX8_left_52 ?_
  refine lv_iload hx hb dX8_left_55 (lv_at hl 0 rfl) ?_
  refine md_iald hx hb hC hM 8 rfl (j := (8 * r) + ((sd + 1) % cn)) (by omega) (by decide) dX8_left_57 ?_
  refine lv_aload_n hx hb dX8_left_58 rfl (lv_at hl 2 rfl) ?_
  refine md_getr hx hb hts hin_wsX80 hown hC hM 8 (by decide) rfl fl_16 dX8_left_59 ?_
  refine lv_iload hx hb dX8_left_62 (lv_at hl 1 rfl) ?_
  refine md_iald hx hb hC hM 8 rfl (j := (8 * r) + sd) (by omega) (by decide) dX8_left_64 ?_
  refine lv_isub hx hb dX8_left_65 ?_
  refine lv_iload_n hx hb dX8_left_66 rfl (lv_at hl 5 rfl) ?_
  refine lv_aload_n hx hb dX8_left_67 rfl (lv_at hl 2 rfl) ?_
  refine md_getr hx hb hts hin_wsX80 hown hC hM 7 (by decide) rfl fl_13 dX8_left_68 ?_
  refine lv_iload hx hb dX8_left_71 (lv_at hl 1 rfl) ?_
  refine md_iald hx hb hC hM 7 rfl (j := (8 * r) + sd) (by omega) (by decide) dX8_left_73 ?_
  refine lv_isub hx hb dX8_left_74 ?_
  refine lv_imul hx hb dX8_left_75 ?_
  refine lv_isub hx hb dX8_left_76 ?_
  exact mp_iret hx hb hr hlocks (Nat.le_of_ble_eq_true rfl) (Nat.le_of_ble_eq_true rfl) hM hS dX8_left_77 (⟨rfl, rfl⟩)
abbrev rmX8_area : Room := { frames := 1, cells := 0, slots := 0, locals := 26 }
set_option maxHeartbeats 4000000 in
set_option maxRecDepth 100000 in
theorem c_X8_area (l : Launch) (X : mp_X) (G : mp_G) (A : Nat → Prop) (B : mp_M) (h : Nat) (ad : Nat → Nat) (n : Nat → Int32) (f : Nat → Nat → Int32) (r cn : Nat) (hr9 : r < 13) (hcn0 : 0 < cn) (hcn8 : cn ≤ 8) (hcn : f 6 r = nI cn) : mp_Met l X G A yX8_area wsX8_area rmX8_area ([.ref h, .int (nI r)] : List Value) (md_M G B h ad n f) (fun v M1 => v = some (.int (rg_area (md_rg f r cn))) ∧ M1 = md_M G B h ad n f) 0 0 := by
  refine mp_ofW (cc := cX8_area) (maxL := 4) (ret := (some .int)) (by decide) rfl (by decide) ?_
  intro p e s m below meth c ls hx hb hr hts hown hlocks hnm hml hC hM hS hl
  have hl : lv_has ls 4 [(0, .ref h), (1, .int (nI r))] := hl
  have hown : s.vm.findClass RX8 = some m.cls := hown
  have fl_7 := hts (.fieldLink RX8 7 "PlanningBenchModel" "corners" "[I") (List.mem_of_getElem? (i := 1) rfl)
  have hin_wsX80 : ∀ w ∈ wsX80, w ∈ wsX8_area := fun _ h => List.mem_cons_of_mem _ (List.mem_append_right _ h)
  refine lv_iconst (v := (0 : Int32)) hx hb dX8_area_0 (by decide) ?_
  refine lv_istore_n (lv' := [(2, .int (0 : Int32)), (0, .ref h), (1, .int (nI r))]) hx hb dX8_area_1 rfl hl (by decide) rfl (fun ls hl => ?_)
  refine lv_iconst (v := (0 : Int32)) hx hb dX8_area_2 (by decide) ?_
  refine lv_istore_n (lv' := [(3, .int (0 : Int32)), (2, .int (0 : Int32)), (0, .ref h), (1, .int (nI r))]) hx hb dX8_area_3 rfl hl (by decide) rfl (fun ls hl => ?_)
  have LP4 : ∀ (kk : Nat) (i : Nat) (ls : Array Slot) (H : Heap) (locs : List Loc), cn - i < kk → i ≤ cn → mp_P G.1 A (md_M G B h ad n f) H → va_S A s.heap H locs → lv_has ls 4 [(0, .ref h), (1, .int (nI r)), (2, .int (rg_sum (fun j => rg_side (md_rg f r cn) j 0 0) i)), (3, .int (nI i))] → W p l e rmX8_area s m ([.ref h, .int (nI r)] : List Value).toArray below meth c H locs 0 0 (MQ below (mp_Q G.1 A (fun v M1 => v = some (.int (rg_area (md_rg f r cn))) ∧ M1 = md_M G B h ad n f)) ([.ref h, .int (nI r)] : List Value).toArray s 0 0 A) (F0 m 4 ls []) := by
    intro kk
    induction kk with
    | zero => intro i ls H locs hk; exact absurd hk (Nat.not_lt_zero _)
    | succ kk ih =>
      intro i ls H locs hk hi hM hS hl
      refine lv_iload_n hx hb dX8_area_4 rfl (lv_at hl 3 rfl) ?_
      refine lv_aload_n hx hb dX8_area_5 rfl (lv_at hl 0 rfl) ?_
      refine md_getr hx hb hts hin_wsX80 hown hC hM 6 (by decide) rfl fl_7 dX8_area_6 ?_
      refine lv_iload_n hx hb dX8_area_9 rfl (lv_at hl 1 rfl) ?_
      refine md_iald hx hb hC hM 6 rfl (j := r) (by omega) (by decide) dX8_area_10 ?_
      refine mp_top (nI cn) hcn ?_
      refine lv_icmp_ge (tgt := 31) hx hb dX8_area_11 (by decide) (fun hlt => ?_) (fun hlt => ?_)
      · have hlt := nn_le (a := cn) (b := i) (by omega) (by omega) hlt
        refine lv_iload_n hx hb dX8_area_31 rfl (lv_at hl 2 rfl) ?_
        exact mp_iret hx hb hr hlocks (Nat.le_of_ble_eq_true rfl) (Nat.le_of_ble_eq_true rfl) hM hS dX8_area_32 (⟨by rw [show i = cn by omega]; rfl, rfl⟩)
      · have hlt := nn_nle (a := cn) (b := i) (by omega) (by omega) hlt
        refine lv_iload_n hx hb dX8_area_14 rfl (lv_at hl 2 rfl) ?_
        refine lv_aload_n hx hb dX8_area_15 rfl (lv_at hl 0 rfl) ?_
        refine lv_iload_n hx hb dX8_area_16 rfl (lv_at hl 1 rfl) ?_
        refine lv_iload_n hx hb dX8_area_17 rfl (lv_at hl 3 rfl) ?_
        refine lv_iconst (v := (0 : Int32)) hx hb dX8_area_18 (by decide) ?_
        refine lv_iconst (v := (0 : Int32)) hx hb dX8_area_19 (by decide) ?_
        refine mp_calli (va_runV (As := [.int (nI r), .int (nI i), .int (0 : Int32), .int (0 : Int32)]) (rest := [.int (rg_sum (fun j => rg_side (md_rg f r cn) j 0 0) i)]) ⟨hx, hb, hml, hown, hts⟩ (c_X8_left l X G A B h ad n f r i cn (0 : Int32) (0 : Int32) (by omega) (by omega) (by omega) (by omega) hcn) (cwV 4 hts gX8_area_X8_left rfl rfl rfl (by decide +kernel) ⟨Nat.le_of_ble_eq_true rfl, Nat.le_of_ble_eq_true rfl⟩) (mp_preV hC hS hM (md_recv hC hM)) rfl rfl hl.1 rfl (lv_room (Nat.le_of_ble_eq_true rfl)) dX8_area_20 ⟨Nat.le_of_ble_eq_true rfl, Nat.le_of_ble_eq_true rfl⟩) hS (fun H locs hM hS => ?_)
        refine lv_iadd hx hb dX8_area_23 ?_
        refine lv_istore_n (lv' := [(2, .int ((rg_sum (fun j => rg_side (md_rg f r cn) j 0 0) i) + (rg_side (md_rg f r cn) i (0 : Int32) (0 : Int32)))), (0, .ref h), (1, .int (nI r)), (3, .int (nI i))]) hx hb dX8_area_24 rfl hl (by decide) rfl (fun ls hl => ?_)
        refine lv_iinc (v := nI (i + 1)) (lv' := [(3, .int (nI (i + 1))), (2, .int ((rg_sum (fun j => rg_side (md_rg f r cn) j 0 0) i) + (rg_side (md_rg f r cn) i (0 : Int32) (0 : Int32)))), (0, .ref h), (1, .int (nI r))]) hx hb dX8_area_25 hl (k := 3) rfl (nI_1 i) (by decide) rfl (fun ls hl => ?_)
        refine lv_goto (tgt := 4) hx hb dX8_area_28 (by decide) ?_
        exact ih (i + 1) ls _ _ (by omega) (by omega) hM hS (lv_sub hl [2, 3, 1, 0] rfl)
  exact LP4 _ 0 ls _ _ (Nat.lt_succ_self _) (Nat.zero_le _) hM hS (lv_sub hl [2, 3, 1, 0] rfl)
abbrev rmX8_isRing : Room := { frames := 1, cells := 0, slots := 0, locals := 26 }
set_option maxHeartbeats 4000000 in
set_option maxRecDepth 100000 in
theorem c_X8_isRing (l : Launch) (X : mp_X) (G : mp_G) (A : Nat → Prop) (B : mp_M) (h : Nat) (ad : Nat → Nat) (n : Nat → Int32) (f : Nat → Nat → Int32) (r cn : Nat) (hr9 : r < 13) (hcn8 : cn ≤ 8) (hcn : f 6 r = nI cn) : mp_Met l X G A yX8_isRing wsX8_isRing rmX8_isRing ([.ref h, .int (nI r)] : List Value) (md_M G B h ad n f) (fun v M1 => v = some (.int (bI (pB (rg_ok (md_rg f r cn))))) ∧ M1 = md_M G B h ad n f) 0 0 := by
  refine mp_ofW (cc := cX8_isRing) (maxL := 5) (ret := (some .boolean)) (by decide) rfl (by decide) ?_
  intro p e s m below meth c ls hx hb hr hts hown hlocks hnm hml hC hM hS hl
  have hl : lv_has ls 5 [(0, .ref h), (1, .int (nI r))] := hl
  have hown : s.vm.findClass RX8 = some m.cls := hown
  have fl_7 := hts (.fieldLink RX8 7 "PlanningBenchModel" "corners" "[I") (List.mem_of_getElem? (i := 1) rfl)
  have hin_wsX80 : ∀ w ∈ wsX80, w ∈ wsX8_isRing := fun _ h => List.mem_cons_of_mem _ (List.mem_append_right _ h)
  have fl_13 := hts (.fieldLink RX8 13 "PlanningBenchModel" "xs" "[I") (List.mem_of_getElem? (i := 2) rfl)
  have fl_16 := hts (.fieldLink RX8 16 "PlanningBenchModel" "ys" "[I") (List.mem_of_getElem? (i := 3) rfl)
  refine lv_aload_n hx hb dX8_isRing_0 rfl (lv_at hl 0 rfl) ?_
  refine md_getr hx hb hts hin_wsX80 hown hC hM 6 (by decide) rfl fl_7 dX8_isRing_1 ?_
  refine lv_iload_n hx hb dX8_isRing_4 rfl (lv_at hl 1 rfl) ?_
  refine md_iald hx hb hC hM 6 rfl (j := r) (by omega) (by decide) dX8_isRing_5 ?_
  refine mp_top (nI cn) hcn ?_
  refine lv_iconst (v := (3 : Int32)) hx hb dX8_isRing_6 (by decide) ?_
  refine lv_icmp_ge (tgt := 12) hx hb dX8_isRing_7 (by decide) (fun c3 => ?_) (fun c3 => ?_)
  · have c3 := nn_le (a := 3) (b := cn) (by omega) (by omega) c3
    refine lv_iconst (v := (0 : Int32)) hx hb dX8_isRing_12 (by decide) ?_
    refine lv_istore_n (lv' := [(2, .int (0 : Int32)), (0, .ref h), (1, .int (nI r))]) hx hb dX8_isRing_13 rfl hl (by decide) rfl (fun ls hl => ?_)
    have LP14 : ∀ (kk : Nat) (i : Nat) (ls : Array Slot) (H : Heap) (locs : List Loc), cn - i < kk → i ≤ cn → (∀ u, u < i → ∀ k, k < cn → k ≠ u → k ≠ (u + 1) % cn → 0 < rg_side (md_rg f r cn) u (f 7 (8 * r + k)) (f 8 (8 * r + k))) → mp_P G.1 A (md_M G B h ad n f) H → va_S A s.heap H locs → lv_has ls 5 [(0, .ref h), (1, .int (nI r)), (2, .int (nI i))] → W p l e rmX8_isRing s m ([.ref h, .int (nI r)] : List Value).toArray below meth c H locs 0 0 (MQ below (mp_Q G.1 A (fun v M1 => v = some (.int (bI (pB (rg_ok (md_rg f r cn))))) ∧ M1 = md_M G B h ad n f)) ([.ref h, .int (nI r)] : List Value).toArray s 0 0 A) (F0 m 14 ls []) := by
      intro kk
      induction kk with
      | zero => intro i ls H locs hk; exact absurd hk (Nat.not_lt_zero _)
      | succ kk ih =>
        intro i ls H locs hk hi hinv hM hS hl
        refine lv_iload_n hx hb dX8_isRing_14 rfl (lv_at hl 2 rfl) ?_
        refine lv_aload_n hx hb dX8_isRing_15 rfl (lv_at hl 0 rfl) ?_
        refine md_getr hx hb hts hin_wsX80 hown hC hM 6 (by decide) rfl fl_7 dX8_isRing_16 ?_
        refine lv_iload_n hx hb dX8_isRing_19 rfl (lv_at hl 1 rfl) ?_
        refine md_iald hx hb hC hM 6 rfl (j := r) (by omega) (by decide) dX8_isRing_20 ?_
        refine mp_top (nI cn) hcn ?_
        refine lv_icmp_ge (tgt := 112) hx hb dX8_isRing_21 (by decide) (fun hlt => ?_) (fun hlt => ?_)
        · have hlt := nn_le (a := cn) (b := i) (by omega) (by omega) hlt
          refine lv_iconst (v := (1 : Int32)) hx hb dX8_isRing_112 (by decide) ?_
          exact mp_zret hx hb hr hlocks (Nat.le_of_ble_eq_true rfl) (Nat.le_of_ble_eq_true rfl) hM hS dX8_isRing_113 (by first | rfl | exact bI_nar _) (⟨b1 ⟨c3, fun u hu k hk => hinv u (by have hu : u < cn := hu; omega) k hk⟩, rfl⟩)
        · have hlt := nn_nle (a := cn) (b := i) (by omega) (by omega) hlt
          refine lv_iconst (v := (0 : Int32)) hx hb dX8_isRing_24 (by decide) ?_
          refine lv_istore_n (lv' := [(3, .int (0 : Int32)), (0, .ref h), (1, .int (nI r)), (2, .int (nI i))]) hx hb dX8_isRing_25 rfl hl (by decide) rfl (fun ls hl => ?_)
          have LP26 : ∀ (kk : Nat) (k : Nat) (ls : Array Slot) (H : Heap) (locs : List Loc), cn - k < kk → k ≤ cn → (∀ u, u < k → u ≠ i → u ≠ (i + 1) % cn → 0 < rg_side (md_rg f r cn) i (f 7 (8 * r + u)) (f 8 (8 * r + u))) → mp_P G.1 A (md_M G B h ad n f) H → va_S A s.heap H locs → lv_has ls 5 [(0, .ref h), (1, .int (nI r)), (2, .int (nI i)), (3, .int (nI k))] → W p l e rmX8_isRing s m ([.ref h, .int (nI r)] : List Value).toArray below meth c H locs 0 0 (MQ below (mp_Q G.1 A (fun v M1 => v = some (.int (bI (pB (rg_ok (md_rg f r cn))))) ∧ M1 = md_M G B h ad n f)) ([.ref h, .int (nI r)] : List Value).toArray s 0 0 A) (F0 m 26 ls []) := by
            intro kk
            induction kk with
            | zero => intro k ls H locs hk; exact absurd hk (Nat.not_lt_zero _)
            | succ kk ih2 =>
              intro k ls H locs hk hkl hinv2 hM hS hl
              have hmod : (i + 1) % cn < cn := Nat.mod_lt _ (by omega)
              refine lv_iload_n hx hb dX8_isRing_26 rfl (lv_at hl 3 rfl) ?_
              refine lv_aload_n hx hb dX8_isRing_27 rfl (lv_at hl 0 rfl) ?_
              refine md_getr hx hb hts hin_wsX80 hown hC hM 6 (by decide) rfl fl_7 dX8_isRing_28 ?_
              refine lv_iload_n hx hb dX8_isRing_31 rfl (lv_at hl 1 rfl) ?_
              refine md_iald hx hb hC hM 6 rfl (j := r) (by omega) (by decide) dX8_isRing_32 ?_
              refine mp_top (nI cn) hcn ?_
              refine lv_icmp_ge (tgt := 106) hx hb dX8_isRing_33 (by decide) (fun hlt2 => ?_) (fun hlt2 => ?_)
              · have hlt2 := nn_le (a := cn) (b := k) (by omega) (by omega) hlt2
                refine lv_iinc (v := nI (i + 1)) (lv' := [(2, .int (nI (i + 1))), (0, .ref h), (1, .int (nI r)), (3, .int (nI k))]) hx hb dX8_isRing_106 hl (k := 2) rfl (nI_1 i) (by decide) rfl (fun ls hl => ?_)
                refine lv_goto (tgt := 14) hx hb dX8_isRing_109 (by decide) ?_
                exact ih (i + 1) ls _ _ (by omega) (by omega) (fun u hu => by
                  by_cases hui : u < i
                  · exact hinv u hui
                  · rw [show u = i by omega]; intro k2 hk2; exact hinv2 k2 (by omega)) hM hS (lv_sub hl [1, 2, 0] rfl)
              · have hlt2 := nn_nle (a := cn) (b := k) (by omega) (by omega) hlt2
                refine lv_iload_n hx hb dX8_isRing_36 rfl (lv_at hl 3 rfl) ?_
                refine lv_iload_n hx hb dX8_isRing_37 rfl (lv_at hl 2 rfl) ?_
                refine lv_icmp_eq (tgt := 55) hx hb dX8_isRing_38 (by decide) (fun ceq => ?_) (fun ceq => ?_)
                · have ceq := nn_eq (a := k) (b := i) (by omega) (by omega) ceq
                  refine lv_iconst (v := (1 : Int32)) hx hb dX8_isRing_55 (by decide) ?_
                  refine lv_goto (tgt := 60) hx hb dX8_isRing_56 (by decide) ?_
                  refine lv_istore (lv' := [(4, .int (1 : Int32)), (0, .ref h), (1, .int (nI r)), (2, .int (nI i)), (3, .int (nI k))]) hx hb dX8_isRing_60 hl (by decide) rfl (fun ls hl => ?_)
                  refine lv_iload hx hb dX8_isRing_62 (lv_at hl 0 rfl) ?_
                  refine lv_if_ne (tgt := 100) hx hb dX8_isRing_64 (by decide) (fun _ => ?_) (fun c_z => absurd c_z (by decide))
                  refine lv_iinc (v := nI (k + 1)) (lv' := [(3, .int (nI (k + 1))), (4, .int (1 : Int32)), (0, .ref h), (1, .int (nI r)), (2, .int (nI i))]) hx hb dX8_isRing_100 hl (k := 4) rfl (nI_1 k) (by decide) rfl (fun ls hl => ?_)
                  refine lv_goto (tgt := 26) hx hb dX8_isRing_103 (by decide) ?_
                  exact ih2 (k + 1) ls _ _ (by omega) (by omega) (fun u hu h1 h2 => by
                    by_cases huk : u < k
                    · exact hinv2 u huk h1 h2
                    · have huk : u = k := by omega
                      subst huk
                      first | exact absurd ceq h1 | exact absurd ceq2 h2 | exact cpos) hM hS (lv_sub hl [2, 3, 4, 0] rfl)
                · have ceq := nn_neq (a := k) (b := i) (by omega) (by omega) ceq
                  refine lv_iload_n hx hb dX8_isRing_41 rfl (lv_at hl 3 rfl) ?_
                  refine lv_iload_n hx hb dX8_isRing_42 rfl (lv_at hl 2 rfl) ?_
                  refine lv_iconst (v := (1 : Int32)) hx hb dX8_isRing_43 (by decide) ?_
                  refine lv_iadd hx hb dX8_isRing_44 ?_
                  refine mp_top (nI (i + 1)) (nI_add i 1) ?_
                  refine lv_aload_n hx hb dX8_isRing_45 rfl (lv_at hl 0 rfl) ?_
                  refine md_getr hx hb hts hin_wsX80 hown hC hM 6 (by decide) rfl fl_7 dX8_isRing_46 ?_
                  refine lv_iload_n hx hb dX8_isRing_49 rfl (lv_at hl 1 rfl) ?_
                  refine md_iald hx hb hC hM 6 rfl (j := r) (by omega) (by decide) dX8_isRing_50 ?_
                  refine mp_top (nI cn) hcn ?_
                  refine lv_irem hx hb dX8_isRing_51 (nI_ne0 (by omega) (by omega)) ?_
                  refine mp_top (nI ((i + 1) % cn)) (pk_rem (by omega) (by omega) (by omega)) ?_
                  refine lv_icmp_ne (tgt := 59) hx hb dX8_isRing_52 (by decide) (fun ceq2 => ?_) (fun ceq2 => ?_)
                  · have ceq2 := nn_neq (a := k) (b := (i + 1) % cn) (by omega) (by omega) ceq2
                    refine lv_iconst (v := (0 : Int32)) hx hb dX8_isRing_59 (by decide) ?_
                    refine lv_istore (lv' := [(4, .int (0 : Int32)), (0, .ref h), (1, .int (nI r)), (2, .int (nI i)), (3, .int (nI k))]) hx hb dX8_isRing_60 hl (by decide) rfl (fun ls hl => ?_)
                    refine lv_iload hx hb dX8_isRing_62 (lv_at hl 0 rfl) ?_
                    refine lv_if_ne (tgt := 100) hx hb dX8_isRing_64 (by decide) (fun c_z => absurd (by decide) c_z) (fun _ => ?_)
                    refine lv_aload_n hx hb dX8_isRing_67 rfl (lv_at hl 1 rfl) ?_
                    refine lv_iload_n hx hb dX8_isRing_68 rfl (lv_at hl 2 rfl) ?_
                    refine lv_iload_n hx hb dX8_isRing_69 rfl (lv_at hl 3 rfl) ?_
                    refine lv_aload_n hx hb dX8_isRing_70 rfl (lv_at hl 1 rfl) ?_
                    refine md_getr hx hb hts hin_wsX80 hown hC hM 7 (by decide) rfl fl_13 dX8_isRing_71 ?_
                    refine lv_bipush (v := (8 : Int32)) hx hb dX8_isRing_74 (by decide) ?_
                    refine lv_iload_n hx hb dX8_isRing_76 rfl (lv_at hl 2 rfl) ?_
                    refine lv_imul hx hb dX8_isRing_77 ?_
                    refine mp_top (nI (8 * r)) (pk_mul 8 r) ?_
                    refine lv_iload_n hx hb dX8_isRing_78 rfl (lv_at hl 4 rfl) ?_
                    refine lv_iadd hx hb dX8_isRing_79 ?_
                    refine mp_top (nI ((8 * r) + k)) (nI_add (8 * r) k) ?_
                    refine md_iald hx hb hC hM 7 rfl (j := (8 * r) + k) (by omega) (by decide) dX8_isRing_80 ?_
                    refine lv_aload_n hx hb dX8_isRing_81 rfl (lv_at hl 1 rfl) ?_
                    refine md_getr hx hb hts hin_wsX80 hown hC hM 8 (by decide) rfl fl_16 dX8_isRing_82 ?_
                    refine lv_bipush (v := (8 : Int32)) hx hb dX8_isRing_85 (by decide) ?_
                    refine lv_iload_n hx hb dX8_isRing_87 rfl (lv_at hl 2 rfl) ?_
                    refine lv_imul hx hb dX8_isRing_88 ?_
                    refine mp_top (nI (8 * r)) (pk_mul 8 r) ?_
                    refine lv_iload_n hx hb dX8_isRing_89 rfl (lv_at hl 4 rfl) ?_
                    refine lv_iadd hx hb dX8_isRing_90 ?_
                    refine mp_top (nI ((8 * r) + k)) (nI_add (8 * r) k) ?_
                    refine md_iald hx hb hC hM 8 rfl (j := (8 * r) + k) (by omega) (by decide) dX8_isRing_91 ?_
                    refine mp_calli (va_runV (As := [.int (nI r), .int (nI i), .int (f 7 ((8 * r) + k)), .int (f 8 ((8 * r) + k))]) (rest := []) ⟨hx, hb, hml, hown, hts⟩ (c_X8_left l X G A B h ad n f r i cn (f 7 ((8 * r) + k)) (f 8 ((8 * r) + k)) (by omega) (by omega) (by omega) (by omega) hcn) (cwV 4 hts gX8_isRing_X8_left rfl rfl rfl (by decide +kernel) ⟨Nat.le_of_ble_eq_true rfl, Nat.le_of_ble_eq_true rfl⟩) (mp_preV hC hS hM (md_recv hC hM)) rfl rfl hl.1 rfl (lv_room (Nat.le_of_ble_eq_true rfl)) dX8_isRing_92 ⟨Nat.le_of_ble_eq_true rfl, Nat.le_of_ble_eq_true rfl⟩) hS (fun H locs hM hS => ?_)
                    refine lv_if_gt (tgt := 100) hx hb dX8_isRing_95 (by decide) (fun cpos => ?_) (fun cpos => ?_)
                    · have cpos := cpos
                      refine lv_iinc (v := nI (k + 1)) (lv' := [(3, .int (nI (k + 1))), (4, .int (0 : Int32)), (0, .ref h), (1, .int (nI r)), (2, .int (nI i))]) hx hb dX8_isRing_100 hl (k := 4) rfl (nI_1 k) (by decide) rfl (fun ls hl => ?_)
                      refine lv_goto (tgt := 26) hx hb dX8_isRing_103 (by decide) ?_
                      exact ih2 (k + 1) ls _ _ (by omega) (by omega) (fun u hu h1 h2 => by
                        by_cases huk : u < k
                        · exact hinv2 u huk h1 h2
                        · have huk : u = k := by omega
                          subst huk
                          first | exact absurd ceq h1 | exact absurd ceq2 h2 | exact cpos) hM hS (lv_sub hl [2, 3, 4, 0] rfl)
                    · have cpos := cpos
                      refine lv_iconst (v := (0 : Int32)) hx hb dX8_isRing_98 (by decide) ?_
                      exact mp_zret hx hb hr hlocks (Nat.le_of_ble_eq_true rfl) (Nat.le_of_ble_eq_true rfl) hM hS dX8_isRing_99 (by first | rfl | exact bI_nar _) (⟨b0 (fun q => cpos (q.2 i hlt k hlt2 ceq ceq2)), rfl⟩)
                  · have ceq2 := nn_eq (a := k) (b := (i + 1) % cn) (by omega) (by omega) ceq2
                    refine lv_iconst (v := (1 : Int32)) hx hb dX8_isRing_55 (by decide) ?_
                    refine lv_goto (tgt := 60) hx hb dX8_isRing_56 (by decide) ?_
                    refine lv_istore (lv' := [(4, .int (1 : Int32)), (0, .ref h), (1, .int (nI r)), (2, .int (nI i)), (3, .int (nI k))]) hx hb dX8_isRing_60 hl (by decide) rfl (fun ls hl => ?_)
                    refine lv_iload hx hb dX8_isRing_62 (lv_at hl 0 rfl) ?_
                    refine lv_if_ne (tgt := 100) hx hb dX8_isRing_64 (by decide) (fun _ => ?_) (fun c_z => absurd c_z (by decide))
                    refine lv_iinc (v := nI (k + 1)) (lv' := [(3, .int (nI (k + 1))), (4, .int (1 : Int32)), (0, .ref h), (1, .int (nI r)), (2, .int (nI i))]) hx hb dX8_isRing_100 hl (k := 4) rfl (nI_1 k) (by decide) rfl (fun ls hl => ?_)
                    refine lv_goto (tgt := 26) hx hb dX8_isRing_103 (by decide) ?_
                    exact ih2 (k + 1) ls _ _ (by omega) (by omega) (fun u hu h1 h2 => by
                      by_cases huk : u < k
                      · exact hinv2 u huk h1 h2
                      · have huk : u = k := by omega
                        subst huk
                        first | exact absurd ceq h1 | exact absurd ceq2 h2 | exact cpos) hM hS (lv_sub hl [2, 3, 4, 0] rfl)
          exact LP26 _ 0 ls _ _ (Nat.lt_succ_self _) (Nat.zero_le _) (fun u hu => absurd hu (Nat.not_lt_zero u)) hM hS (lv_sub hl [1, 2, 3, 0] rfl)
    exact LP14 _ 0 ls _ _ (Nat.lt_succ_self _) (Nat.zero_le _) (fun u hu => absurd hu (Nat.not_lt_zero u)) hM hS (lv_sub hl [1, 2, 0] rfl)
  · have c3 := nn_nle (a := 3) (b := cn) (by omega) (by omega) c3
    refine lv_iconst (v := (0 : Int32)) hx hb dX8_isRing_10 (by decide) ?_
    exact mp_zret hx hb hr hlocks (Nat.le_of_ble_eq_true rfl) (Nat.le_of_ble_eq_true rfl) hM hS dX8_isRing_11 (by first | rfl | exact bI_nar _) (⟨b0 (fun q => absurd q.1 (Nat.not_le.mpr c3)), rfl⟩)
