/-! ===== the reference, method by method: numbers and places ===== -/
def md_in (v lo hi : Int32) : Prop := lo ≤ v ∧ v ≤ hi
def md_rg (f : Nat → Nat → Int32) (r : Nat) (cn : Nat) : rg_R := (sh (f 7) (8 * r), sh (f 8) (8 * r), cn)
def md_day (n : Nat → Int32) (d : Int32) : Prop := n 0 < d ∧ d ≤ 9999
noncomputable def md_dayN (n : Nat → Int32) (d : Int32) : Nat → Int32 := if pB (md_day n d) then upd n 0 d else n
def md_cornerOK (tl : Nat) (x y : Int32) : Prop := md_in x 0 63 ∧ md_in y 0 63 ∧ tl ≠ 8
def md_plotOK (f : Nat → Nat → Int32) (pl tl : Nat) (co : Nat → Nat) (i : Nat) : Prop := pl < 12 ∧ rg_ok (md_rg f pl tl) ∧ ∀ o, o < i → rg_parts (md_rg f pl tl) (md_rg f o (co o)) ∨ rg_parts (md_rg f o (co o)) (md_rg f pl tl)
noncomputable def md_ringV (f : Nat → Nat → Int32) (pl : Nat) (co : Nat → Nat) (q w : Int32) : Int32 :=
  if pB (md_in q 0 (nI pl - 1) ∧ 0 ≤ w) then
    (if w = 0 then f 6 q.toNatClampNeg else if w = 1 then rg_area (md_rg f q.toNatClampNeg (co q.toNatClampNeg))
     else if nI (co q.toNatClampNeg) ≤ w / 2 - 1 then -1 else if w - w / 2 * 2 = 0 then f 7 (8 * q.toNatClampNeg + (w / 2 - 1).toNatClampNeg) else f 8 (8 * q.toNatClampNeg + (w / 2 - 1).toNatClampNeg))
  else -1
def md_nearOK (f : Nat → Nat → Int32) (pl : Nat) (co : Nat → Nat) (a b d : Int32) : Prop := md_in a 0 (nI pl - 1) ∧ md_in b 0 (nI pl - 1) ∧ a ≠ b ∧ md_in d 0 100 ∧ rg_near (md_rg f a.toNatClampNeg (co a.toNatClampNeg)) (md_rg f b.toNatClampNeg (co b.toNatClampNeg)) d.toInt64
abbrev rmX8_isIn : Room := { frames := 0, cells := 0, slots := 0, locals := 0 }
set_option maxHeartbeats 4000000 in
set_option maxRecDepth 100000 in
theorem c_X8_isIn (l : Launch) (X : mp_X) (G : mp_G) (A : Nat → Prop) (M : mp_M) (v lo hi : Int32) : mp_Met l X G A yX8_isIn wsX8_isIn rmX8_isIn ([.int v, .int lo, .int hi] : List Value) M (fun r M1 => r = some (.int (bI (pB (md_in v lo hi)))) ∧ M1 = M) 0 0 := by
  refine mp_ofW (cc := cX8_isIn) (maxL := 3) (ret := (some .boolean)) (by decide) rfl (Nat.le_of_ble_eq_true rfl) ?_
  intro p e s m below meth c ls hx hb hr hts hown hlocks hnm hml hC hM hS hl
  have hl : lv_has ls 3 [(0, .int v), (1, .int lo), (2, .int hi)] := hl
  have hown : s.vm.findClass RX8 = some m.cls := hown
  refine lv_iload_n hx hb dX8_isIn_0 rfl (lv_at hl 0 rfl) ?_
  refine lv_iload_n hx hb dX8_isIn_1 rfl (lv_at hl 1 rfl) ?_
  refine lv_icmp_lt (tgt := 14) hx hb dX8_isIn_2 (by decide) (fun c_1 => ?_) (fun c_1 => ?_)
  · have c_1 := c_1
    refine lv_iconst (v := (0 : Int32)) hx hb dX8_isIn_14 (by decide) ?_
    exact mp_zret hx hb hr hlocks (Nat.le_of_ble_eq_true rfl) (Nat.le_of_ble_eq_true rfl) hM hS dX8_isIn_15 (by first | rfl | exact bI_nar _) (⟨by first | exact b1 ⟨i_nlt.mp c_1, i_nlt.mp c_2⟩ | exact b0 (fun q => absurd q.1 (i_nle.mpr c_1)) | exact b0 (fun q => absurd q.2 (i_nle.mpr c_2)), rfl⟩)
  · have c_1 := c_1
    refine lv_iload_n hx hb dX8_isIn_5 rfl (lv_at hl 0 rfl) ?_
    refine lv_iload_n hx hb dX8_isIn_6 rfl (lv_at hl 2 rfl) ?_
    refine lv_icmp_gt (tgt := 14) hx hb dX8_isIn_7 (by decide) (fun c_2 => ?_) (fun c_2 => ?_)
    · have c_2 := c_2
      refine lv_iconst (v := (0 : Int32)) hx hb dX8_isIn_14 (by decide) ?_
      exact mp_zret hx hb hr hlocks (Nat.le_of_ble_eq_true rfl) (Nat.le_of_ble_eq_true rfl) hM hS dX8_isIn_15 (by first | rfl | exact bI_nar _) (⟨by first | exact b1 ⟨i_nlt.mp c_1, i_nlt.mp c_2⟩ | exact b0 (fun q => absurd q.1 (i_nle.mpr c_1)) | exact b0 (fun q => absurd q.2 (i_nle.mpr c_2)), rfl⟩)
    · have c_2 := c_2
      refine lv_iconst (v := (1 : Int32)) hx hb dX8_isIn_10 (by decide) ?_
      refine lv_goto (tgt := 15) hx hb dX8_isIn_11 (by decide) ?_
      exact mp_zret hx hb hr hlocks (Nat.le_of_ble_eq_true rfl) (Nat.le_of_ble_eq_true rfl) hM hS dX8_isIn_15 (by first | rfl | exact bI_nar _) (⟨by first | exact b1 ⟨i_nlt.mp c_1, i_nlt.mp c_2⟩ | exact b0 (fun q => absurd q.1 (i_nle.mpr c_1)) | exact b0 (fun q => absurd q.2 (i_nle.mpr c_2)), rfl⟩)
abbrev rmX8_isDay : Room := { frames := 1, cells := 0, slots := 0, locals := 22 }
set_option maxHeartbeats 4000000 in
set_option maxRecDepth 100000 in
theorem c_X8_isDay (l : Launch) (X : mp_X) (G : mp_G) (A : Nat → Prop) (M : mp_M) (d : Int32) : mp_Met l X G A yX8_isDay wsX8_isDay rmX8_isDay ([.int d] : List Value) M (fun r M1 => r = some (.int (bI (pB (md_in d 0 9999)))) ∧ M1 = M) 0 0 := by
  refine mp_ofW (cc := cX8_isDay) (maxL := 1) (ret := (some .boolean)) (by decide) rfl (Nat.le_of_ble_eq_true rfl) ?_
  intro p e s m below meth c ls hx hb hr hts hown hlocks hnm hml hC hM hS hl
  have hl : lv_has ls 1 [(0, .int d)] := hl
  have hown : s.vm.findClass RX8 = some m.cls := hown
  refine lv_iload_n hx hb dX8_isDay_0 rfl (lv_at hl 0 rfl) ?_
  refine lv_iconst (v := (0 : Int32)) hx hb dX8_isDay_1 (by decide) ?_
  refine lv_sipush (v := (9999 : Int32)) hx hb dX8_isDay_2 (by decide) ?_
  refine mp_calli (va_runS (As := [.int d, .int (0 : Int32), .int (9999 : Int32)]) (rest := []) ⟨hx, hb, hml, hown, hts⟩ (c_X8_isIn l X G A (M) d (0 : Int32) (9999 : Int32)) (va_cwS 3 hts gX8_isDay_X8_isIn rfl rfl rfl (by decide +kernel) ⟨Nat.le_of_ble_eq_true rfl, Nat.le_of_ble_eq_true rfl⟩) (mp_preS hC hS hM) rfl rfl hl.1 rfl (lv_room (Nat.le_of_ble_eq_true rfl)) dX8_isDay_5 ⟨Nat.le_of_ble_eq_true rfl, Nat.le_of_ble_eq_true rfl⟩) hS (fun H locs hM hS => ?_)
  exact mp_zret hx hb hr hlocks (Nat.le_of_ble_eq_true rfl) (Nat.le_of_ble_eq_true rfl) hM hS dX8_isDay_8 (bI_nar _) (⟨rfl, rfl⟩)
abbrev rmX8_isPlot : Room := { frames := 1, cells := 0, slots := 0, locals := 22 }
set_option maxHeartbeats 4000000 in
set_option maxRecDepth 100000 in
theorem c_X8_isPlot (l : Launch) (X : mp_X) (G : mp_G) (A : Nat → Prop) (B : mp_M) (h : Nat) (ad : Nat → Nat) (n : Nat → Int32) (f : Nat → Nat → Int32) (q : Int32) : mp_Met l X G A yX8_isPlot wsX8_isPlot rmX8_isPlot ([.ref h, .int q] : List Value) (md_M G B h ad n f) (fun r M1 => r = some (.int (bI (pB (md_in q 0 (n 1 - 1))))) ∧ M1 = md_M G B h ad n f) 0 0 := by
  refine mp_ofW (cc := cX8_isPlot) (maxL := 2) (ret := (some .boolean)) (by decide) rfl (Nat.le_of_ble_eq_true rfl) ?_
  intro p e s m below meth c ls hx hb hr hts hown hlocks hnm hml hC hM hS hl
  have hl : lv_has ls 2 [(0, .ref h), (1, .int q)] := hl
  have hown : s.vm.findClass RX8 = some m.cls := hown
  have fl_119 := hts (.fieldLink RX8 119 "PlanningBenchModel" "plots" "I") (List.mem_of_getElem? (i := 1) rfl)
  have hin_wsX80 : ∀ w ∈ wsX80, w ∈ wsX8_isPlot := fun _ h => List.mem_cons_of_mem _ (List.mem_append_right _ h)
  refine lv_iload_n hx hb dX8_isPlot_0 rfl (lv_at hl 1 rfl) ?_
  refine lv_iconst (v := (0 : Int32)) hx hb dX8_isPlot_1 (by decide) ?_
  refine lv_aload_n hx hb dX8_isPlot_2 rfl (lv_at hl 0 rfl) ?_
  refine md_geti hx hb hts hin_wsX80 hown hC hM 1 (by decide) rfl fl_119 dX8_isPlot_3 ?_
  refine lv_iconst (v := (1 : Int32)) hx hb dX8_isPlot_6 (by decide) ?_
  refine lv_isub hx hb dX8_isPlot_7 ?_
  refine mp_calli (va_runS (As := [.int q, .int (0 : Int32), .int ((n 1) - (1 : Int32))]) (rest := []) ⟨hx, hb, hml, hown, hts⟩ (c_X8_isIn l X G A (md_M G B h ad n f) q (0 : Int32) ((n 1) - (1 : Int32))) (va_cwS 3 hts gX8_isPlot_X8_isIn rfl rfl rfl (by decide +kernel) ⟨Nat.le_of_ble_eq_true rfl, Nat.le_of_ble_eq_true rfl⟩) (mp_preS hC hS hM) rfl rfl hl.1 rfl (lv_room (Nat.le_of_ble_eq_true rfl)) dX8_isPlot_8 ⟨Nat.le_of_ble_eq_true rfl, Nat.le_of_ble_eq_true rfl⟩) hS (fun H locs hM hS => ?_)
  exact mp_zret hx hb hr hlocks (Nat.le_of_ble_eq_true rfl) (Nat.le_of_ble_eq_true rfl) hM hS dX8_isPlot_11 (bI_nar _) (⟨rfl, rfl⟩)
abbrev rmX8_isApplication : Room := { frames := 1, cells := 0, slots := 0, locals := 22 }
set_option maxHeartbeats 4000000 in
set_option maxRecDepth 100000 in
theorem c_X8_isApplication (l : Launch) (X : mp_X) (G : mp_G) (A : Nat → Prop) (B : mp_M) (h : Nat) (ad : Nat → Nat) (n : Nat → Int32) (f : Nat → Nat → Int32) (q : Int32) : mp_Met l X G A yX8_isApplication wsX8_isApplication rmX8_isApplication ([.ref h, .int q] : List Value) (md_M G B h ad n f) (fun r M1 => r = some (.int (bI (pB (md_in q 0 (n 4 - 1))))) ∧ M1 = md_M G B h ad n f) 0 0 := by
  refine mp_ofW (cc := cX8_isApplication) (maxL := 2) (ret := (some .boolean)) (by decide) rfl (Nat.le_of_ble_eq_true rfl) ?_
  intro p e s m below meth c ls hx hb hr hts hown hlocks hnm hml hC hM hS hl
  have hl : lv_has ls 2 [(0, .ref h), (1, .int q)] := hl
  have hown : s.vm.findClass RX8 = some m.cls := hown
  have fl_122 := hts (.fieldLink RX8 122 "PlanningBenchModel" "applications" "I") (List.mem_of_getElem? (i := 1) rfl)
  have hin_wsX80 : ∀ w ∈ wsX80, w ∈ wsX8_isApplication := fun _ h => List.mem_cons_of_mem _ (List.mem_append_right _ h)
  refine lv_iload_n hx hb dX8_isApplication_0 rfl (lv_at hl 1 rfl) ?_
  refine lv_iconst (v := (0 : Int32)) hx hb dX8_isApplication_1 (by decide) ?_
  refine lv_aload_n hx hb dX8_isApplication_2 rfl (lv_at hl 0 rfl) ?_
  refine md_geti hx hb hts hin_wsX80 hown hC hM 4 (by decide) rfl fl_122 dX8_isApplication_3 ?_
  refine lv_iconst (v := (1 : Int32)) hx hb dX8_isApplication_6 (by decide) ?_
  refine lv_isub hx hb dX8_isApplication_7 ?_
  refine mp_calli (va_runS (As := [.int q, .int (0 : Int32), .int ((n 4) - (1 : Int32))]) (rest := []) ⟨hx, hb, hml, hown, hts⟩ (c_X8_isIn l X G A (md_M G B h ad n f) q (0 : Int32) ((n 4) - (1 : Int32))) (va_cwS 3 hts gX8_isApplication_X8_isIn rfl rfl rfl (by decide +kernel) ⟨Nat.le_of_ble_eq_true rfl, Nat.le_of_ble_eq_true rfl⟩) (mp_preS hC hS hM) rfl rfl hl.1 rfl (lv_room (Nat.le_of_ble_eq_true rfl)) dX8_isApplication_8 ⟨Nat.le_of_ble_eq_true rfl, Nat.le_of_ble_eq_true rfl⟩) hS (fun H locs hM hS => ?_)
  exact mp_zret hx hb hr hlocks (Nat.le_of_ble_eq_true rfl) (Nat.le_of_ble_eq_true rfl) hM hS dX8_isApplication_11 (bI_nar _) (⟨rfl, rfl⟩)
abbrev rmX8_day : Room := { frames := 0, cells := 0, slots := 0, locals := 0 }
set_option maxHeartbeats 4000000 in
set_option maxRecDepth 100000 in
theorem c_X8_day (l : Launch) (X : mp_X) (G : mp_G) (A : Nat → Prop) (B : mp_M) (h : Nat) (ad : Nat → Nat) (n : Nat → Int32) (f : Nat → Nat → Int32) (d : Int32) : mp_Met l X G A yX8_day wsX8_day rmX8_day ([.ref h, .int d] : List Value) (md_M G B h ad n f) (fun r M1 => r = some (.int (bI (pB (md_day n d)))) ∧ M1 = md_M G B h ad (md_dayN n d) f) 0 0 := by
  refine mp_ofW (cc := cX8_day) (maxL := 2) (ret := (some .boolean)) (by decide) rfl (Nat.le_of_ble_eq_true rfl) ?_
  intro p e s m below meth c ls hx hb hr hts hown hlocks hnm hml hC hM hS hl
  have hl : lv_has ls 2 [(0, .ref h), (1, .int d)] := hl
  have hown : s.vm.findClass RX8 = some m.cls := hown
  have fl_125 := hts (.fieldLink RX8 125 "PlanningBenchModel" "today" "I") (List.mem_of_getElem? (i := 1) rfl)
  have hin_wsX80 : ∀ w ∈ wsX80, w ∈ wsX8_day := fun _ h => List.mem_cons_of_mem _ (List.mem_append_right _ h)
  refine lv_iload_n hx hb dX8_day_0 rfl (lv_at hl 1 rfl) ?_
  refine lv_aload_n hx hb dX8_day_1 rfl (lv_at hl 0 rfl) ?_
  refine md_geti hx hb hts hin_wsX80 hown hC hM 0 (by decide) rfl fl_125 dX8_day_2 ?_
  refine lv_icmp_le (tgt := 15) hx hb dX8_day_5 (by decide) (fun c1 => ?_) (fun c1 => ?_)
  · have c1 := c1
    refine lv_iconst (v := (0 : Int32)) hx hb dX8_day_15 (by decide) ?_
    exact mp_zret hx hb hr hlocks (Nat.le_of_ble_eq_true rfl) (Nat.le_of_ble_eq_true rfl) hM hS dX8_day_16 (by first | rfl | exact bI_nar _) (have q : ¬ md_day n d := (fun q => by first | exact absurd q.1 (i_nlt.mpr c1) | exact absurd q.2 c2); ⟨b0 q, by rw [md_dayN, pB_f q]; rfl⟩)
  · have c1 := c1
    refine lv_iload_n hx hb dX8_day_8 rfl (lv_at hl 1 rfl) ?_
    refine lv_sipush (v := (9999 : Int32)) hx hb dX8_day_9 (by decide) ?_
    refine lv_icmp_le (tgt := 17) hx hb dX8_day_12 (by decide) (fun c2 => ?_) (fun c2 => ?_)
    · have c2 := c2
      refine lv_aload_n hx hb dX8_day_17 rfl (lv_at hl 0 rfl) ?_
      refine lv_iload_n hx hb dX8_day_18 rfl (lv_at hl 1 rfl) ?_
      refine md_puti hx hb hts hin_wsX80 hown hC hM hS 0 (by decide) rfl rfl rfl fl_125 dX8_day_19 (fun H locs hM hS => ?_)
      refine lv_iconst (v := (1 : Int32)) hx hb dX8_day_22 (by decide) ?_
      exact mp_zret hx hb hr hlocks (Nat.le_of_ble_eq_true rfl) (Nat.le_of_ble_eq_true rfl) hM hS dX8_day_23 (by first | rfl | exact bI_nar _) (⟨b1 ⟨i_nle.mp c1, c2⟩, by rw [md_dayN, pB_t ⟨i_nle.mp c1, c2⟩]; rfl⟩)
    · have c2 := c2
      refine lv_iconst (v := (0 : Int32)) hx hb dX8_day_15 (by decide) ?_
      exact mp_zret hx hb hr hlocks (Nat.le_of_ble_eq_true rfl) (Nat.le_of_ble_eq_true rfl) hM hS dX8_day_16 (by first | rfl | exact bI_nar _) (have q : ¬ md_day n d := (fun q => by first | exact absurd q.1 (i_nlt.mpr c1) | exact absurd q.2 c2); ⟨b0 q, by rw [md_dayN, pB_f q]; rfl⟩)
abbrev rmX8_left : Room := { frames := 0, cells := 0, slots := 0, locals := 0 }
set_option maxHeartbeats 4000000 in
set_option maxRecDepth 100000 in
theorem c_X8_left (l : Launch) (X : mp_X) (G : mp_G) (A : Nat → Prop) (B : mp_M) (h : Nat) (ad : Nat → Nat) (n : Nat → Int32) (f : Nat → Nat → Int32) (r sd cn : Nat) (x y : Int32) (hr9 : r < 13) (hs9 : sd < 8) (hc0 : 0 < cn) (hc8 : cn ≤ 8) (hcn : f 6 r = nI cn) : mp_Met l X G A yX8_left wsX8_left rmX8_left ([.ref h, .int (nI r), .int (nI sd), .int x, .int y] : List Value) (md_M G B h ad n f) (fun v M1 => v = some (.int (rg_side (md_rg f r cn) sd x y)) ∧ M1 = md_M G B h ad n f) 0 0 := by
  refine mp_ofW (cc := cX8_left) (maxL := 7) (ret := (some .int)) (by decide) rfl (Nat.le_of_ble_eq_true rfl) ?_
  intro p e s m below meth c ls hx hb hr hts hown hlocks hnm hml hC hM hS hl
  have hl : lv_has ls 7 [(0, .ref h), (1, .int (nI r)), (2, .int (nI sd)), (3, .int x), (4, .int y)] := hl
  have hown : s.vm.findClass RX8 = some m.cls := hown
  have fl_7 := hts (.fieldLink RX8 7 "PlanningBenchModel" "corners" "[I") (List.mem_of_getElem? (i := 1) rfl)
  have hin_wsX80 : ∀ w ∈ wsX80, w ∈ wsX8_left := fun _ h => List.mem_cons_of_mem _ (List.mem_append_right _ h)
  have fl_13 := hts (.fieldLink RX8 13 "PlanningBenchModel" "xs" "[I") (List.mem_of_getElem? (i := 2) rfl)
  have fl_16 := hts (.fieldLink RX8 16 "PlanningBenchModel" "ys" "[I") (List.mem_of_getElem? (i := 3) rfl)
  have hmod : (sd + 1) % cn < cn := Nat.mod_lt _ hc0
  refine lv_bipush (v := (8 : Int32)) hx hb dX8_left_0 (by decide) ?_
  refine lv_iload_n hx hb dX8_left_2 rfl (lv_at hl 1 rfl) ?_
  refine lv_imul hx hb dX8_left_3 ?_
  refine mp_top (nI (8 * r)) (pk_mul 8 r) ?_
  refine lv_iload_n hx hb dX8_left_4 rfl (lv_at hl 2 rfl) ?_
  refine lv_iadd hx hb dX8_left_5 ?_
  refine mp_top (nI ((8 * r) + sd)) (nI_add (8 * r) sd) ?_
  refine lv_istore (lv' := [(5, .int (nI ((8 * r) + sd))), (0, .ref h), (1, .int (nI r)), (2, .int (nI sd)), (3, .int x), (4, .int y)]) hx hb dX8_left_6 hl (by decide) rfl (fun ls hl => ?_)
  refine lv_bipush (v := (8 : Int32)) hx hb dX8_left_8 (by decide) ?_
  refine lv_iload_n hx hb dX8_left_10 rfl (lv_at hl 2 rfl) ?_
  refine lv_imul hx hb dX8_left_11 ?_
  refine mp_top (nI (8 * r)) (pk_mul 8 r) ?_
  refine lv_iload_n hx hb dX8_left_12 rfl (lv_at hl 3 rfl) ?_
  refine lv_iconst (v := (1 : Int32)) hx hb dX8_left_13 (by decide) ?_
  refine lv_iadd hx hb dX8_left_14 ?_
  refine mp_top (nI (sd + 1)) (nI_add sd 1) ?_
  refine lv_aload_n hx hb dX8_left_15 rfl (lv_at hl 1 rfl) ?_
  refine md_getr hx hb hts hin_wsX80 hown hC hM 6 (by decide) rfl fl_7 dX8_left_16 ?_
  refine lv_iload_n hx hb dX8_left_19 rfl (lv_at hl 2 rfl) ?_
  refine md_iald hx hb hC hM 6 rfl (j := r) (by omega) (by decide) dX8_left_20 ?_
  refine mp_top (nI cn) hcn ?_
  refine lv_irem hx hb dX8_left_21 (nI_ne0 (by omega) (by omega)) ?_
  refine mp_top (nI ((sd + 1) % cn)) (pk_rem (by omega) (by omega) (by omega)) ?_
  refine lv_iadd hx hb dX8_left_22 ?_
  refine mp_top (nI ((8 * r) + ((sd + 1) % cn))) (nI_add (8 * r) ((sd + 1) % cn)) ?_
  refine lv_istore (lv' := [(6, .int (nI ((8 * r) + ((sd + 1) % cn)))), (5, .int (nI ((8 * r) + sd))), (0, .ref h), (1, .int (nI r)), (2, .int (nI sd)), (3, .int x), (4, .int y)]) hx hb dX8_left_23 hl (by decide) rfl (fun ls hl => ?_)
  refine lv_aload_n hx hb dX8_left_25 rfl (lv_at hl 2 rfl) ?_
  refine md_getr hx hb hts hin_wsX80 hown hC hM 7 (by decide) rfl fl_13 dX8_left_26 ?_
  refine lv_iload hx hb dX8_left_29 (lv_at hl 0 rfl) ?_
  refine md_iald hx hb hC hM 7 rfl (j := (8 * r) + ((sd + 1) % cn)) (by omega) (by decide) dX8_left_31 ?_
  refine lv_aload_n hx hb dX8_left_32 rfl (lv_at hl 2 rfl) ?_
  refine md_getr hx hb hts hin_wsX80 hown hC hM 7 (by decide) rfl fl_13 dX8_left_33 ?_
  refine lv_iload hx hb dX8_left_36 (lv_at hl 1 rfl) ?_
  refine md_iald hx hb hC hM 7 rfl (j := (8 * r) + sd) (by omega) (by decide) dX8_left_38 ?_
  refine lv_isub hx hb dX8_left_39 ?_
  refine lv_iload hx hb dX8_left_40 (lv_at hl 6 rfl) ?_
  refine lv_aload_n hx hb dX8_left_42 rfl (lv_at hl 2 rfl) ?_
  refine md_getr hx hb hts hin_wsX80 hown hC hM 8 (by decide) rfl fl_16 dX8_left_43 ?_
  refine lv_iload hx hb dX8_left_46 (lv_at hl 1 rfl) ?_
  refine md_iald hx hb hC hM 8 rfl (j := (8 * r) + sd) (by omega) (by decide) dX8_left_48 ?_
  refine lv_isub hx hb dX8_left_49 ?_
  refine lv_imul hx hb dX8_left_50 ?_
  refine lv_aload_n hx hb dX8_left_51 rfl (lv_at hl 2 rfl) ?_
  refine md_getr hx hb hts hin_wsX80 hown hC hM 8 (by decide) rfl fl_16 dX8_left_52 ?_
  refine lv_iload hx hb dX8_left_55 (lv_at hl 0 rfl) ?_
  refine md_iald hx hb hC hM 8 rfl (j := (8 * r) + ((sd + 1) % cn)) (by omega) (by decide) dX8_left_57 ?_
  refine lv_aload_n hx hb dX8_left_58 rfl (lv_at hl 2 rfl) ?_
  refine md_getr hx hb hts hin_wsX80 hown hC hM 8 (by decide) rfl fl_16 dX8_left_59 ?_
  refine lv_iload hx hb dX8_left_62 (lv_at hl 1 rfl) ?_
  refine md_iald hx hb hC hM 8 rfl (j := (8 * r) + sd) (by omega) (by decide) dX8_left_64 ?_
  refine lv_isub hx hb dX8_left_65 ?_
  refine lv_iload_n hx hb dX8_left_66 rfl (lv_at hl 5 rfl) ?_
  refine lv_aload_n hx hb dX8_left_67 rfl (lv_at hl 2 rfl) ?_
  refine md_getr hx hb hts hin_wsX80 hown hC hM 7 (by decide) rfl fl_13 dX8_left_68 ?_
  refine lv_iload hx hb dX8_left_71 (lv_at hl 1 rfl) ?_
  refine md_iald hx hb hC hM 7 rfl (j := (8 * r) + sd) (by omega) (by decide) dX8_left_73 ?_
  refine lv_isub hx hb dX8_left_74 ?_
  refine lv_imul hx hb dX8_left_75 ?_
  refine lv_isub hx hb dX8_left_76 ?_
  exact mp_iret hx hb hr hlocks (Nat.le_of_ble_eq_true rfl) (Nat.le_of_ble_eq_true rfl) hM hS dX8_left_77 (⟨rfl, rfl⟩)
abbrev rmX8_area : Room := { frames := 1, cells := 0, slots := 0, locals := 26 }
set_option maxHeartbeats 4000000 in
set_option maxRecDepth 100000 in
theorem c_X8_area (l : Launch) (X : mp_X) (G : mp_G) (A : Nat → Prop) (B : mp_M) (h : Nat) (ad : Nat → Nat) (n : Nat → Int32) (f : Nat → Nat → Int32) (r cn : Nat) (hr9 : r < 13) (hcn0 : 0 < cn) (hcn8 : cn ≤ 8) (hcn : f 6 r = nI cn) : mp_Met l X G A yX8_area wsX8_area rmX8_area ([.ref h, .int (nI r)] : List Value) (md_M G B h ad n f) (fun v M1 => v = some (.int (rg_area (md_rg f r cn))) ∧ M1 = md_M G B h ad n f) 0 0 := by
  refine mp_ofW (cc := cX8_area) (maxL := 4) (ret := (some .int)) (by decide) rfl (Nat.le_of_ble_eq_true rfl) ?_
  intro p e s m below meth c ls hx hb hr hts hown hlocks hnm hml hC hM hS hl
  have hl : lv_has ls 4 [(0, .ref h), (1, .int (nI r))] := hl
  have hown : s.vm.findClass RX8 = some m.cls := hown
  have fl_7 := hts (.fieldLink RX8 7 "PlanningBenchModel" "corners" "[I") (List.mem_of_getElem? (i := 1) rfl)
  have hin_wsX80 : ∀ w ∈ wsX80, w ∈ wsX8_area := fun _ h => List.mem_cons_of_mem _ (List.mem_append_right _ h)
  refine lv_iconst (v := (0 : Int32)) hx hb dX8_area_0 (by decide) ?_
  refine lv_istore_n (lv' := [(2, .int (0 : Int32)), (0, .ref h), (1, .int (nI r))]) hx hb dX8_area_1 rfl hl (by decide) rfl (fun ls hl => ?_)
  refine lv_iconst (v := (0 : Int32)) hx hb dX8_area_2 (by decide) ?_
  refine lv_istore_n (lv' := [(3, .int (0 : Int32)), (2, .int (0 : Int32)), (0, .ref h), (1, .int (nI r))]) hx hb dX8_area_3 rfl hl (by decide) rfl (fun ls hl => ?_)
  have LP4 : ∀ (kk : Nat) (i : Nat) (ls : Array Slot) (H : Heap) (locs : List Loc), cn - i < kk → i ≤ cn → mp_P G.1 A (md_M G B h ad n f) H → va_S A s.heap H locs → lv_has ls 4 [(0, .ref h), (1, .int (nI r)), (2, .int (rg_sum (fun j => rg_side (md_rg f r cn) j 0 0) i)), (3, .int (nI i))] → W p l e rmX8_area s m ([.ref h, .int (nI r)] : List Value).toArray below meth c H locs 0 0 (MQ below (mp_Q G.1 A (fun v M1 => v = some (.int (rg_area (md_rg f r cn))) ∧ M1 = md_M G B h ad n f)) ([.ref h, .int (nI r)] : List Value).toArray s 0 0 A) (F0 m 4 ls []) := by
    intro kk
    induction kk with
    | zero => intro i ls H locs hk; exact absurd hk (Nat.not_lt_zero _)
    | succ kk ih =>
      intro i ls H locs hk hi hM hS hl
      refine lv_iload_n hx hb dX8_area_4 rfl (lv_at hl 3 rfl) ?_
      refine lv_aload_n hx hb dX8_area_5 rfl (lv_at hl 0 rfl) ?_
      refine md_getr hx hb hts hin_wsX80 hown hC hM 6 (by decide) rfl fl_7 dX8_area_6 ?_
      refine lv_iload_n hx hb dX8_area_9 rfl (lv_at hl 1 rfl) ?_
      refine md_iald hx hb hC hM 6 rfl (j := r) (by omega) (by decide) dX8_area_10 ?_
      refine mp_top (nI cn) hcn ?_
      refine lv_icmp_ge (tgt := 31) hx hb dX8_area_11 (by decide) (fun hlt => ?_) (fun hlt => ?_)
      · have hlt := nn_le (a := cn) (b := i) (by omega) (by omega) hlt
        refine lv_iload_n hx hb dX8_area_31 rfl (lv_at hl 2 rfl) ?_
        exact mp_iret hx hb hr hlocks (Nat.le_of_ble_eq_true rfl) (Nat.le_of_ble_eq_true rfl) hM hS dX8_area_32 (⟨by rw [show i = cn by omega]; rfl, rfl⟩)
      · have hlt := nn_nle (a := cn) (b := i) (by omega) (by omega) hlt
        refine lv_iload_n hx hb dX8_area_14 rfl (lv_at hl 2 rfl) ?_
        refine lv_aload_n hx hb dX8_area_15 rfl (lv_at hl 0 rfl) ?_
        refine lv_iload_n hx hb dX8_area_16 rfl (lv_at hl 1 rfl) ?_
        refine lv_iload_n hx hb dX8_area_17 rfl (lv_at hl 3 rfl) ?_
        refine lv_iconst (v := (0 : Int32)) hx hb dX8_area_18 (by decide) ?_
        refine lv_iconst (v := (0 : Int32)) hx hb dX8_area_19 (by decide) ?_
        refine mp_calli (va_runV (As := [.int (nI r), .int (nI i), .int (0 : Int32), .int (0 : Int32)]) (rest := [.int (rg_sum (fun j => rg_side (md_rg f r cn) j 0 0) i)]) ⟨hx, hb, hml, hown, hts⟩ (c_X8_left l X G A B h ad n f r i cn (0 : Int32) (0 : Int32) (by omega) (by omega) (by omega) (by omega) hcn) (cwV 4 hts gX8_area_X8_left rfl rfl rfl (by decide +kernel) ⟨Nat.le_of_ble_eq_true rfl, Nat.le_of_ble_eq_true rfl⟩) (mp_preV hC hS hM (md_recv hC hM)) rfl rfl hl.1 rfl (lv_room (Nat.le_of_ble_eq_true rfl)) dX8_area_20 ⟨Nat.le_of_ble_eq_true rfl, Nat.le_of_ble_eq_true rfl⟩) hS (fun H locs hM hS => ?_)
        refine lv_iadd hx hb dX8_area_23 ?_
        refine lv_istore_n (lv' := [(2, .int ((rg_sum (fun j => rg_side (md_rg f r cn) j 0 0) i) + (rg_side (md_rg f r cn) i (0 : Int32) (0 : Int32)))), (0, .ref h), (1, .int (nI r)), (3, .int (nI i))]) hx hb dX8_area_24 rfl hl (by decide) rfl (fun ls hl => ?_)
        refine lv_iinc (v := nI (i + 1)) (lv' := [(3, .int (nI (i + 1))), (2, .int ((rg_sum (fun j => rg_side (md_rg f r cn) j 0 0) i) + (rg_side (md_rg f r cn) i (0 : Int32) (0 : Int32)))), (0, .ref h), (1, .int (nI r))]) hx hb dX8_area_25 hl (k := 3) rfl (nI_1 i) (by decide) rfl (fun ls hl => ?_)
        refine lv_goto (tgt := 4) hx hb dX8_area_28 (by decide) ?_
        exact ih (i + 1) ls _ _ (by omega) (by omega) hM hS (lv_sub hl [2, 3, 1, 0] rfl)
  exact LP4 _ 0 ls _ _ (Nat.lt_succ_self _) (Nat.zero_le _) hM hS (lv_sub hl [2, 3, 1, 0] rfl)
abbrev rmX8_isRing : Room := { frames := 1, cells := 0, slots := 0, locals := 26 }
set_option maxHeartbeats 4000000 in
set_option maxRecDepth 100000 in
theorem c_X8_isRing (l : Launch) (X : mp_X) (G : mp_G) (A : Nat → Prop) (B : mp_M) (h : Nat) (ad : Nat → Nat) (n : Nat → Int32) (f : Nat → Nat → Int32) (r cn : Nat) (hr9 : r < 13) (hcn8 : cn ≤ 8) (hcn : f 6 r = nI cn) : mp_Met l X G A yX8_isRing wsX8_isRing rmX8_isRing ([.ref h, .int (nI r)] : List Value) (md_M G B h ad n f) (fun v M1 => v = some (.int (bI (pB (rg_ok (md_rg f r cn))))) ∧ M1 = md_M G B h ad n f) 0 0 := by
  refine mp_ofW (cc := cX8_isRing) (maxL := 5) (ret := (some .boolean)) (by decide) rfl (Nat.le_of_ble_eq_true rfl) ?_
  intro p e s m below meth c ls hx hb hr hts hown hlocks hnm hml hC hM hS hl
  have hl : lv_has ls 5 [(0, .ref h), (1, .int (nI r))] := hl
  have hown : s.vm.findClass RX8 = some m.cls := hown
  have fl_7 := hts (.fieldLink RX8 7 "PlanningBenchModel" "corners" "[I") (List.mem_of_getElem? (i := 1) rfl)
  have hin_wsX80 : ∀ w ∈ wsX80, w ∈ wsX8_isRing := fun _ h => List.mem_cons_of_mem _ (List.mem_append_right _ h)
  have fl_13 := hts (.fieldLink RX8 13 "PlanningBenchModel" "xs" "[I") (List.mem_of_getElem? (i := 2) rfl)
  have fl_16 := hts (.fieldLink RX8 16 "PlanningBenchModel" "ys" "[I") (List.mem_of_getElem? (i := 3) rfl)
  refine lv_aload_n hx hb dX8_isRing_0 rfl (lv_at hl 0 rfl) ?_
  refine md_getr hx hb hts hin_wsX80 hown hC hM 6 (by decide) rfl fl_7 dX8_isRing_1 ?_
  refine lv_iload_n hx hb dX8_isRing_4 rfl (lv_at hl 1 rfl) ?_
  refine md_iald hx hb hC hM 6 rfl (j := r) (by omega) (by decide) dX8_isRing_5 ?_
  refine mp_top (nI cn) hcn ?_
  refine lv_iconst (v := (3 : Int32)) hx hb dX8_isRing_6 (by decide) ?_
  refine lv_icmp_ge (tgt := 12) hx hb dX8_isRing_7 (by decide) (fun c3 => ?_) (fun c3 => ?_)
  · have c3 := nn_le (a := 3) (b := cn) (by omega) (by omega) c3
    refine lv_iconst (v := (0 : Int32)) hx hb dX8_isRing_12 (by decide) ?_
    refine lv_istore_n (lv' := [(2, .int (0 : Int32)), (0, .ref h), (1, .int (nI r))]) hx hb dX8_isRing_13 rfl hl (by decide) rfl (fun ls hl => ?_)
    have LP14 : ∀ (kk : Nat) (i : Nat) (ls : Array Slot) (H : Heap) (locs : List Loc), cn - i < kk → i ≤ cn → (∀ u, u < i → ∀ k, k < cn → k ≠ u → k ≠ (u + 1) % cn → 0 < rg_side (md_rg f r cn) u (f 7 (8 * r + k)) (f 8 (8 * r + k))) → mp_P G.1 A (md_M G B h ad n f) H → va_S A s.heap H locs → lv_has ls 5 [(0, .ref h), (1, .int (nI r)), (2, .int (nI i))] → W p l e rmX8_isRing s m ([.ref h, .int (nI r)] : List Value).toArray below meth c H locs 0 0 (MQ below (mp_Q G.1 A (fun v M1 => v = some (.int (bI (pB (rg_ok (md_rg f r cn))))) ∧ M1 = md_M G B h ad n f)) ([.ref h, .int (nI r)] : List Value).toArray s 0 0 A) (F0 m 14 ls []) := by
      intro kk
      induction kk with
      | zero => intro i ls H locs hk; exact absurd hk (Nat.not_lt_zero _)
      | succ kk ih =>
        intro i ls H locs hk hi hinv hM hS hl
        refine lv_iload_n hx hb dX8_isRing_14 rfl (lv_at hl 2 rfl) ?_
        refine lv_aload_n hx hb dX8_isRing_15 rfl (lv_at hl 0 rfl) ?_
        refine md_getr hx hb hts hin_wsX80 hown hC hM 6 (by decide) rfl fl_7 dX8_isRing_16 ?_
        refine lv_iload_n hx hb dX8_isRing_19 rfl (lv_at hl 1 rfl) ?_
        refine md_iald hx hb hC hM 6 rfl (j := r) (by omega) (by decide) dX8_isRing_20 ?_
        refine mp_top (nI cn) hcn ?_
        refine lv_icmp_ge (tgt := 112) hx hb dX8_isRing_21 (by decide) (fun hlt => ?_) (fun hlt => ?_)
        · have hlt := nn_le (a := cn) (b := i) (by omega) (by omega) hlt
          refine lv_iconst (v := (1 : Int32)) hx hb dX8_isRing_112 (by decide) ?_
          exact mp_zret hx hb hr hlocks (Nat.le_of_ble_eq_true rfl) (Nat.le_of_ble_eq_true rfl) hM hS dX8_isRing_113 (by first | rfl | exact bI_nar _) (⟨b1 ⟨c3, fun u hu k hk => hinv u (by have hu : u < cn := hu; omega) k hk⟩, rfl⟩)
        · have hlt := nn_nle (a := cn) (b := i) (by omega) (by omega) hlt
          refine lv_iconst (v := (0 : Int32)) hx hb dX8_isRing_24 (by decide) ?_
          refine lv_istore_n (lv' := [(3, .int (0 : Int32)), (0, .ref h), (1, .int (nI r)), (2, .int (nI i))]) hx hb dX8_isRing_25 rfl hl (by decide) rfl (fun ls hl => ?_)
          have LP26 : ∀ (kk : Nat) (k : Nat) (ls : Array Slot) (H : Heap) (locs : List Loc), cn - k < kk → k ≤ cn → (∀ u, u < k → u ≠ i → u ≠ (i + 1) % cn → 0 < rg_side (md_rg f r cn) i (f 7 (8 * r + u)) (f 8 (8 * r + u))) → mp_P G.1 A (md_M G B h ad n f) H → va_S A s.heap H locs → lv_has ls 5 [(0, .ref h), (1, .int (nI r)), (2, .int (nI i)), (3, .int (nI k))] → W p l e rmX8_isRing s m ([.ref h, .int (nI r)] : List Value).toArray below meth c H locs 0 0 (MQ below (mp_Q G.1 A (fun v M1 => v = some (.int (bI (pB (rg_ok (md_rg f r cn))))) ∧ M1 = md_M G B h ad n f)) ([.ref h, .int (nI r)] : List Value).toArray s 0 0 A) (F0 m 26 ls []) := by
            intro kk
            induction kk with
            | zero => intro k ls H locs hk; exact absurd hk (Nat.not_lt_zero _)
            | succ kk ih2 =>
              intro k ls H locs hk hkl hinv2 hM hS hl
              have hmod : (i + 1) % cn < cn := Nat.mod_lt _ (by omega)
              refine lv_iload_n hx hb dX8_isRing_26 rfl (lv_at hl 3 rfl) ?_
              refine lv_aload_n hx hb dX8_isRing_27 rfl (lv_at hl 0 rfl) ?_
              refine md_getr hx hb hts hin_wsX80 hown hC hM 6 (by decide) rfl fl_7 dX8_isRing_28 ?_
              refine lv_iload_n hx hb dX8_isRing_31 rfl (lv_at hl 1 rfl) ?_
              refine md_iald hx hb hC hM 6 rfl (j := r) (by omega) (by decide) dX8_isRing_32 ?_
              refine mp_top (nI cn) hcn ?_
              refine lv_icmp_ge (tgt := 106) hx hb dX8_isRing_33 (by decide) (fun hlt2 => ?_) (fun hlt2 => ?_)
              · have hlt2 := nn_le (a := cn) (b := k) (by omega) (by omega) hlt2
                refine lv_iinc (v := nI (i + 1)) (lv' := [(2, .int (nI (i + 1))), (0, .ref h), (1, .int (nI r)), (3, .int (nI k))]) hx hb dX8_isRing_106 hl (k := 2) rfl (nI_1 i) (by decide) rfl (fun ls hl => ?_)
                refine lv_goto (tgt := 14) hx hb dX8_isRing_109 (by decide) ?_
                exact ih (i + 1) ls _ _ (by omega) (by omega) (fun u hu => by
                  by_cases hui : u < i
                  · exact hinv u hui
                  · rw [show u = i by omega]; intro k2 hk2; exact hinv2 k2 (by omega)) hM hS (lv_sub hl [1, 2, 0] rfl)
              · have hlt2 := nn_nle (a := cn) (b := k) (by omega) (by omega) hlt2
                refine lv_iload_n hx hb dX8_isRing_36 rfl (lv_at hl 3 rfl) ?_
                refine lv_iload_n hx hb dX8_isRing_37 rfl (lv_at hl 2 rfl) ?_
                refine lv_icmp_eq (tgt := 55) hx hb dX8_isRing_38 (by decide) (fun ceq => ?_) (fun ceq => ?_)
                · have ceq := nn_eq (a := k) (b := i) (by omega) (by omega) ceq
                  refine lv_iconst (v := (1 : Int32)) hx hb dX8_isRing_55 (by decide) ?_
                  refine lv_goto (tgt := 60) hx hb dX8_isRing_56 (by decide) ?_
                  refine lv_istore (lv' := [(4, .int (1 : Int32)), (0, .ref h), (1, .int (nI r)), (2, .int (nI i)), (3, .int (nI k))]) hx hb dX8_isRing_60 hl (by decide) rfl (fun ls hl => ?_)
                  refine lv_iload hx hb dX8_isRing_62 (lv_at hl 0 rfl) ?_
                  refine lv_if_ne (tgt := 100) hx hb dX8_isRing_64 (by decide) (fun _ => ?_) (fun c_z => absurd c_z (by decide))
                  refine lv_iinc (v := nI (k + 1)) (lv' := [(3, .int (nI (k + 1))), (4, .int (1 : Int32)), (0, .ref h), (1, .int (nI r)), (2, .int (nI i))]) hx hb dX8_isRing_100 hl (k := 4) rfl (nI_1 k) (by decide) rfl (fun ls hl => ?_)
                  refine lv_goto (tgt := 26) hx hb dX8_isRing_103 (by decide) ?_
                  exact ih2 (k + 1) ls _ _ (by omega) (by omega) (fun u hu h1 h2 => by
                    by_cases huk : u < k
                    · exact hinv2 u huk h1 h2
                    · have huk : u = k := by omega
                      subst huk
                      first | exact absurd ceq h1 | exact absurd ceq2 h2 | exact cpos) hM hS (lv_sub hl [2, 3, 4, 0] rfl)
                · have ceq := nn_neq (a := k) (b := i) (by omega) (by omega) ceq
                  refine lv_iload_n hx hb dX8_isRing_41 rfl (lv_at hl 3 rfl) ?_
                  refine lv_iload_n hx hb dX8_isRing_42 rfl (lv_at hl 2 rfl) ?_
                  refine lv_iconst (v := (1 : Int32)) hx hb dX8_isRing_43 (by decide) ?_
                  refine lv_iadd hx hb dX8_isRing_44 ?_
                  refine mp_top (nI (i + 1)) (nI_add i 1) ?_
                  refine lv_aload_n hx hb dX8_isRing_45 rfl (lv_at hl 0 rfl) ?_
                  refine md_getr hx hb hts hin_wsX80 hown hC hM 6 (by decide) rfl fl_7 dX8_isRing_46 ?_
                  refine lv_iload_n hx hb dX8_isRing_49 rfl (lv_at hl 1 rfl) ?_
                  refine md_iald hx hb hC hM 6 rfl (j := r) (by omega) (by decide) dX8_isRing_50 ?_
                  refine mp_top (nI cn) hcn ?_
                  refine lv_irem hx hb dX8_isRing_51 (nI_ne0 (by omega) (by omega)) ?_
                  refine mp_top (nI ((i + 1) % cn)) (pk_rem (by omega) (by omega) (by omega)) ?_
                  refine lv_icmp_ne (tgt := 59) hx hb dX8_isRing_52 (by decide) (fun ceq2 => ?_) (fun ceq2 => ?_)
                  · have ceq2 := nn_neq (a := k) (b := (i + 1) % cn) (by omega) (by omega) ceq2
                    refine lv_iconst (v := (0 : Int32)) hx hb dX8_isRing_59 (by decide) ?_
                    refine lv_istore (lv' := [(4, .int (0 : Int32)), (0, .ref h), (1, .int (nI r)), (2, .int (nI i)), (3, .int (nI k))]) hx hb dX8_isRing_60 hl (by decide) rfl (fun ls hl => ?_)
                    refine lv_iload hx hb dX8_isRing_62 (lv_at hl 0 rfl) ?_
                    refine lv_if_ne (tgt := 100) hx hb dX8_isRing_64 (by decide) (fun c_z => absurd (by decide) c_z) (fun _ => ?_)
                    refine lv_aload_n hx hb dX8_isRing_67 rfl (lv_at hl 1 rfl) ?_
                    refine lv_iload_n hx hb dX8_isRing_68 rfl (lv_at hl 2 rfl) ?_
                    refine lv_iload_n hx hb dX8_isRing_69 rfl (lv_at hl 3 rfl) ?_
                    refine lv_aload_n hx hb dX8_isRing_70 rfl (lv_at hl 1 rfl) ?_
                    refine md_getr hx hb hts hin_wsX80 hown hC hM 7 (by decide) rfl fl_13 dX8_isRing_71 ?_
                    refine lv_bipush (v := (8 : Int32)) hx hb dX8_isRing_74 (by decide) ?_
                    refine lv_iload_n hx hb dX8_isRing_76 rfl (lv_at hl 2 rfl) ?_
                    refine lv_imul hx hb dX8_isRing_77 ?_
                    refine mp_top (nI (8 * r)) (pk_mul 8 r) ?_
                    refine lv_iload_n hx hb dX8_isRing_78 rfl (lv_at hl 4 rfl) ?_
                    refine lv_iadd hx hb dX8_isRing_79 ?_
                    refine mp_top (nI ((8 * r) + k)) (nI_add (8 * r) k) ?_
                    refine md_iald hx hb hC hM 7 rfl (j := (8 * r) + k) (by omega) (by decide) dX8_isRing_80 ?_
                    refine lv_aload_n hx hb dX8_isRing_81 rfl (lv_at hl 1 rfl) ?_
                    refine md_getr hx hb hts hin_wsX80 hown hC hM 8 (by decide) rfl fl_16 dX8_isRing_82 ?_
                    refine lv_bipush (v := (8 : Int32)) hx hb dX8_isRing_85 (by decide) ?_
                    refine lv_iload_n hx hb dX8_isRing_87 rfl (lv_at hl 2 rfl) ?_
                    refine lv_imul hx hb dX8_isRing_88 ?_
                    refine mp_top (nI (8 * r)) (pk_mul 8 r) ?_
                    refine lv_iload_n hx hb dX8_isRing_89 rfl (lv_at hl 4 rfl) ?_
                    refine lv_iadd hx hb dX8_isRing_90 ?_
                    refine mp_top (nI ((8 * r) + k)) (nI_add (8 * r) k) ?_
                    refine md_iald hx hb hC hM 8 rfl (j := (8 * r) + k) (by omega) (by decide) dX8_isRing_91 ?_
                    refine mp_calli (va_runV (As := [.int (nI r), .int (nI i), .int (f 7 ((8 * r) + k)), .int (f 8 ((8 * r) + k))]) (rest := []) ⟨hx, hb, hml, hown, hts⟩ (c_X8_left l X G A B h ad n f r i cn (f 7 ((8 * r) + k)) (f 8 ((8 * r) + k)) (by omega) (by omega) (by omega) (by omega) hcn) (cwV 4 hts gX8_isRing_X8_left rfl rfl rfl (by decide +kernel) ⟨Nat.le_of_ble_eq_true rfl, Nat.le_of_ble_eq_true rfl⟩) (mp_preV hC hS hM (md_recv hC hM)) rfl rfl hl.1 rfl (lv_room (Nat.le_of_ble_eq_true rfl)) dX8_isRing_92 ⟨Nat.le_of_ble_eq_true rfl, Nat.le_of_ble_eq_true rfl⟩) hS (fun H locs hM hS => ?_)
                    refine lv_if_gt (tgt := 100) hx hb dX8_isRing_95 (by decide) (fun cpos => ?_) (fun cpos => ?_)
                    · have cpos := cpos
                      refine lv_iinc (v := nI (k + 1)) (lv' := [(3, .int (nI (k + 1))), (4, .int (0 : Int32)), (0, .ref h), (1, .int (nI r)), (2, .int (nI i))]) hx hb dX8_isRing_100 hl (k := 4) rfl (nI_1 k) (by decide) rfl (fun ls hl => ?_)
                      refine lv_goto (tgt := 26) hx hb dX8_isRing_103 (by decide) ?_
                      exact ih2 (k + 1) ls _ _ (by omega) (by omega) (fun u hu h1 h2 => by
                        by_cases huk : u < k
                        · exact hinv2 u huk h1 h2
                        · have huk : u = k := by omega
                          subst huk
                          first | exact absurd ceq h1 | exact absurd ceq2 h2 | exact cpos) hM hS (lv_sub hl [2, 3, 4, 0] rfl)
                    · have cpos := cpos
                      refine lv_iconst (v := (0 : Int32)) hx hb dX8_isRing_98 (by decide) ?_
                      exact mp_zret hx hb hr hlocks (Nat.le_of_ble_eq_true rfl) (Nat.le_of_ble_eq_true rfl) hM hS dX8_isRing_99 (by first | rfl | exact bI_nar _) (⟨b0 (fun q => cpos (q.2 i hlt k hlt2 ceq ceq2)), rfl⟩)
                  · have ceq2 := nn_eq (a := k) (b := (i + 1) % cn) (by omega) (by omega) ceq2
                    refine lv_iconst (v := (1 : Int32)) hx hb dX8_isRing_55 (by decide) ?_
                    refine lv_goto (tgt := 60) hx hb dX8_isRing_56 (by decide) ?_
                    refine lv_istore (lv' := [(4, .int (1 : Int32)), (0, .ref h), (1, .int (nI r)), (2, .int (nI i)), (3, .int (nI k))]) hx hb dX8_isRing_60 hl (by decide) rfl (fun ls hl => ?_)
                    refine lv_iload hx hb dX8_isRing_62 (lv_at hl 0 rfl) ?_
                    refine lv_if_ne (tgt := 100) hx hb dX8_isRing_64 (by decide) (fun _ => ?_) (fun c_z => absurd c_z (by decide))
                    refine lv_iinc (v := nI (k + 1)) (lv' := [(3, .int (nI (k + 1))), (4, .int (1 : Int32)), (0, .ref h), (1, .int (nI r)), (2, .int (nI i))]) hx hb dX8_isRing_100 hl (k := 4) rfl (nI_1 k) (by decide) rfl (fun ls hl => ?_)
                    refine lv_goto (tgt := 26) hx hb dX8_isRing_103 (by decide) ?_
                    exact ih2 (k + 1) ls _ _ (by omega) (by omega) (fun u hu h1 h2 => by
                      by_cases huk : u < k
                      · exact hinv2 u huk h1 h2
                      · have huk : u = k := by omega
                        subst huk
                        first | exact absurd ceq h1 | exact absurd ceq2 h2 | exact cpos) hM hS (lv_sub hl [2, 3, 4, 0] rfl)
          exact LP26 _ 0 ls _ _ (Nat.lt_succ_self _) (Nat.zero_le _) (fun u hu => absurd hu (Nat.not_lt_zero u)) hM hS (lv_sub hl [1, 2, 3, 0] rfl)
    exact LP14 _ 0 ls _ _ (Nat.lt_succ_self _) (Nat.zero_le _) (fun u hu => absurd hu (Nat.not_lt_zero u)) hM hS (lv_sub hl [1, 2, 0] rfl)
  · have c3 := nn_nle (a := 3) (b := cn) (by omega) (by omega) c3
    refine lv_iconst (v := (0 : Int32)) hx hb dX8_isRing_10 (by decide) ?_
    exact mp_zret hx hb hr hlocks (Nat.le_of_ble_eq_true rfl) (Nat.le_of_ble_eq_true rfl) hM hS dX8_isRing_11 (by first | rfl | exact bI_nar _) (⟨b0 (fun q => absurd q.1 (Nat.not_le.mpr c3)), rfl⟩)
abbrev rmX8_parts : Room := { frames := 1, cells := 0, slots := 0, locals := 26 }
set_option maxHeartbeats 4000000 in
set_option maxRecDepth 100000 in
theorem c_X8_parts (l : Launch) (X : mp_X) (G : mp_G) (A : Nat → Prop) (B : mp_M) (h : Nat) (ad : Nat → Nat) (n : Nat → Int32) (f : Nat → Nat → Int32) (r cr : Nat) (hr9 : r < 13) (hcr0 : 0 < cr) (hcr8 : cr ≤ 8) (hcr : f 6 r = nI cr) (o co : Nat) (ho9 : o < 13) (hco0 : 0 < co) (hco8 : co ≤ 8) (hco : f 6 o = nI co) : mp_Met l X G A yX8_parts wsX8_parts rmX8_parts ([.ref h, .int (nI r), .int (nI o)] : List Value) (md_M G B h ad n f) (fun v M1 => v = some (.int (bI (pB (rg_parts (md_rg f r cr) (md_rg f o co))))) ∧ M1 = md_M G B h ad n f) 0 0 := by
  refine mp_ofW (cc := cX8_parts) (maxL := 6) (ret := (some .boolean)) (by decide) rfl (Nat.le_of_ble_eq_true rfl) ?_
  intro p e s m below meth c ls hx hb hr hts hown hlocks hnm hml hC hM hS hl
  have hl : lv_has ls 6 [(0, .ref h), (1, .int (nI r)), (2, .int (nI o))] := hl
  have hown : s.vm.findClass RX8 = some m.cls := hown
  have fl_7 := hts (.fieldLink RX8 7 "PlanningBenchModel" "corners" "[I") (List.mem_of_getElem? (i := 1) rfl)
  have hin_wsX80 : ∀ w ∈ wsX80, w ∈ wsX8_parts := fun _ h => List.mem_cons_of_mem _ (List.mem_append_right _ h)
  have fl_13 := hts (.fieldLink RX8 13 "PlanningBenchModel" "xs" "[I") (List.mem_of_getElem? (i := 2) rfl)
  have fl_16 := hts (.fieldLink RX8 16 "PlanningBenchModel" "ys" "[I") (List.mem_of_getElem? (i := 3) rfl)
  refine lv_iconst (v := (0 : Int32)) hx hb dX8_parts_0 (by decide) ?_
  refine lv_istore_n (lv' := [(3, .int (0 : Int32)), (0, .ref h), (1, .int (nI r)), (2, .int (nI o))]) hx hb dX8_parts_1 rfl hl (by decide) rfl (fun ls hl => ?_)
  have LP2 : ∀ (kk : Nat) (i : Nat) (ls : Array Slot) (H : Heap) (locs : List Loc), cr - i < kk → i ≤ cr → (∀ j, j < i → ¬ (∀ u, u < co → rg_side (md_rg f r cr) j (f 7 (8 * o + u)) (f 8 (8 * o + u)) ≤ 0)) → mp_P G.1 A (md_M G B h ad n f) H → va_S A s.heap H locs → lv_has ls 6 [(0, .ref h), (1, .int (nI r)), (2, .int (nI o)), (3, .int (nI i))] → W p l e rmX8_parts s m ([.ref h, .int (nI r), .int (nI o)] : List Value).toArray below meth c H locs 0 0 (MQ below (mp_Q G.1 A (fun v M1 => v = some (.int (bI (pB (rg_parts (md_rg f r cr) (md_rg f o co))))) ∧ M1 = md_M G B h ad n f)) ([.ref h, .int (nI r), .int (nI o)] : List Value).toArray s 0 0 A) (F0 m 2 ls []) := by
    intro kk
    induction kk with
    | zero => intro i ls H locs hk; exact absurd hk (Nat.not_lt_zero _)
    | succ kk ih =>
      intro i ls H locs hk hi hinv hM hS hl
      refine lv_iload_n hx hb dX8_parts_2 rfl (lv_at hl 3 rfl) ?_
      refine lv_aload_n hx hb dX8_parts_3 rfl (lv_at hl 0 rfl) ?_
      refine md_getr hx hb hts hin_wsX80 hown hC hM 6 (by decide) rfl fl_7 dX8_parts_4 ?_
      refine lv_iload_n hx hb dX8_parts_7 rfl (lv_at hl 1 rfl) ?_
      refine md_iald hx hb hC hM 6 rfl (j := r) (by omega) (by decide) dX8_parts_8 ?_
      refine mp_top (nI cr) hcr ?_
      refine lv_icmp_ge (tgt := 93) hx hb dX8_parts_9 (by decide) (fun hlt => ?_) (fun hlt => ?_)
      · have hlt := nn_le (a := cr) (b := i) (by omega) (by omega) hlt
        refine lv_iconst (v := (0 : Int32)) hx hb dX8_parts_93 (by decide) ?_
        exact mp_zret hx hb hr hlocks (Nat.le_of_ble_eq_true rfl) (Nat.le_of_ble_eq_true rfl) hM hS dX8_parts_94 (by first | rfl | exact bI_nar _) (⟨b0 (fun ⟨j, hj, q⟩ => hinv j (by have hj : j < cr := hj; omega) q), rfl⟩)
      · have hlt := nn_nle (a := cr) (b := i) (by omega) (by omega) hlt
        refine lv_iconst (v := (1 : Int32)) hx hb dX8_parts_12 (by decide) ?_
        refine mp_top (bI (pB (∀ u, u < 0 → rg_side (md_rg f r cr) i (f 7 (8 * o + u)) (f 8 (8 * o + u)) ≤ 0))) (by rw [pB_t (fun u hu => absurd hu (Nat.not_lt_zero u))]; rfl) ?_
        refine lv_istore (lv' := [(4, .int (bI (pB (∀ u, u < 0 → rg_side (md_rg f r cr) i (f 7 (8 * o + u)) (f 8 (8 * o + u)) ≤ 0)))), (0, .ref h), (1, .int (nI r)), (2, .int (nI o)), (3, .int (nI i))]) hx hb dX8_parts_13 hl (by decide) rfl (fun ls hl => ?_)
        refine lv_iconst (v := (0 : Int32)) hx hb dX8_parts_15 (by decide) ?_
        refine lv_istore (lv' := [(5, .int (0 : Int32)), (4, .int (bI (pB (∀ u, u < 0 → rg_side (md_rg f r cr) i (f 7 (8 * o + u)) (f 8 (8 * o + u)) ≤ 0)))), (0, .ref h), (1, .int (nI r)), (2, .int (nI o)), (3, .int (nI i))]) hx hb dX8_parts_16 hl (by decide) rfl (fun ls hl => ?_)
        have LP18 : ∀ (kk : Nat) (k : Nat) (ls : Array Slot) (H : Heap) (locs : List Loc), co - k < kk → k ≤ co → mp_P G.1 A (md_M G B h ad n f) H → va_S A s.heap H locs → lv_has ls 6 [(0, .ref h), (1, .int (nI r)), (2, .int (nI o)), (3, .int (nI i)), (4, .int (bI (pB (∀ u, u < k → rg_side (md_rg f r cr) i (f 7 (8 * o + u)) (f 8 (8 * o + u)) ≤ 0)))), (5, .int (nI k))] → W p l e rmX8_parts s m ([.ref h, .int (nI r), .int (nI o)] : List Value).toArray below meth c H locs 0 0 (MQ below (mp_Q G.1 A (fun v M1 => v = some (.int (bI (pB (rg_parts (md_rg f r cr) (md_rg f o co))))) ∧ M1 = md_M G B h ad n f)) ([.ref h, .int (nI r), .int (nI o)] : List Value).toArray s 0 0 A) (F0 m 18 ls []) := by
          intro kk
          induction kk with
          | zero => intro k ls H locs hk; exact absurd hk (Nat.not_lt_zero _)
          | succ kk ih2 =>
            intro k ls H locs hk hkl hM hS hl
            refine lv_iload hx hb dX8_parts_18 (lv_at hl 5 rfl) ?_
            refine lv_aload_n hx hb dX8_parts_20 rfl (lv_at hl 0 rfl) ?_
            refine md_getr hx hb hts hin_wsX80 hown hC hM 6 (by decide) rfl fl_7 dX8_parts_21 ?_
            refine lv_iload_n hx hb dX8_parts_24 rfl (lv_at hl 2 rfl) ?_
            refine md_iald hx hb hC hM 6 rfl (j := o) (by omega) (by decide) dX8_parts_25 ?_
            refine mp_top (nI co) hco ?_
            refine lv_icmp_ge (tgt := 80) hx hb dX8_parts_26 (by decide) (fun hlt2 => ?_) (fun hlt2 => ?_)
            · have hlt2 := nn_le (a := co) (b := k) (by omega) (by omega) hlt2
              refine lv_iload hx hb dX8_parts_80 (lv_at hl 4 rfl) ?_
              refine lv_if_eq (tgt := 87) hx hb dX8_parts_82 (by decide) (fun call => ?_) (fun call => ?_)
              · have call : (pB (∀ u, u < k → rg_side (md_rg f r cr) i (f 7 (8 * o + u)) (f 8 (8 * o + u)) ≤ 0)) = false := bI_0.mp call
                refine lv_iinc (v := nI (i + 1)) (lv' := [(3, .int (nI (i + 1))), (0, .ref h), (1, .int (nI r)), (2, .int (nI o)), (4, .int (bI (pB (∀ u, u < k → rg_side (md_rg f r cr) i (f 7 (8 * o + u)) (f 8 (8 * o + u)) ≤ 0)))), (5, .int (nI k))]) hx hb dX8_parts_87 hl (k := 3) rfl (nI_1 i) (by decide) rfl (fun ls hl => ?_)
                refine lv_goto (tgt := 2) hx hb dX8_parts_90 (by decide) ?_
                exact ih (i + 1) ls _ _ (by omega) (by omega) (fun j hj => by
                  by_cases hji : j < i
                  · exact hinv j hji
                  · rw [show j = i by omega]; have q := pB_not.mp call; rw [show k = co by omega] at q; exact q) hM hS (lv_sub hl [1, 2, 3, 0] rfl)
              · have call : (pB (∀ u, u < k → rg_side (md_rg f r cr) i (f 7 (8 * o + u)) (f 8 (8 * o + u)) ≤ 0)) = true := bI_1.mp call
                refine lv_iconst (v := (1 : Int32)) hx hb dX8_parts_85 (by decide) ?_
                exact mp_zret hx hb hr hlocks (Nat.le_of_ble_eq_true rfl) (Nat.le_of_ble_eq_true rfl) hM hS dX8_parts_86 (by first | rfl | exact bI_nar _) (⟨b1 ⟨i, hlt, fun u hu => pB_iff.mp call u (by have hu : u < co := hu; omega)⟩, rfl⟩)
            · have hlt2 := nn_nle (a := co) (b := k) (by omega) (by omega) hlt2
              refine lv_iload hx hb dX8_parts_29 (lv_at hl 4 rfl) ?_
              refine lv_if_eq (tgt := 71) hx hb dX8_parts_31 (by decide) (fun call => ?_) (fun call => ?_)
              · have call : (pB (∀ u, u < k → rg_side (md_rg f r cr) i (f 7 (8 * o + u)) (f 8 (8 * o + u)) ≤ 0)) = false := bI_0.mp call
                refine lv_iconst (v := (0 : Int32)) hx hb dX8_parts_71 (by decide) ?_
                refine mp_top (bI (pB (∀ u, u < (k + 1) → rg_side (md_rg f r cr) i (f 7 (8 * o + u)) (f 8 (8 * o + u)) ≤ 0))) (by first | (rw [pB_f (fun q => pB_not.mp call (fun u hu => q u (by omega)))]; rfl) | (rw [pB_f (fun q => absurd (q k (by omega)) (i_nle.mpr cpos))]; rfl)) ?_
                refine lv_istore (lv' := [(4, .int (bI (pB (∀ u, u < (k + 1) → rg_side (md_rg f r cr) i (f 7 (8 * o + u)) (f 8 (8 * o + u)) ≤ 0)))), (0, .ref h), (1, .int (nI r)), (2, .int (nI o)), (3, .int (nI i)), (5, .int (nI k))]) hx hb dX8_parts_72 hl (by decide) rfl (fun ls hl => ?_)
                refine lv_iinc (v := nI (k + 1)) (lv' := [(5, .int (nI (k + 1))), (4, .int (bI (pB (∀ u, u < (k + 1) → rg_side (md_rg f r cr) i (f 7 (8 * o + u)) (f 8 (8 * o + u)) ≤ 0)))), (0, .ref h), (1, .int (nI r)), (2, .int (nI o)), (3, .int (nI i))]) hx hb dX8_parts_74 hl (k := 5) rfl (nI_1 k) (by decide) rfl (fun ls hl => ?_)
                refine lv_goto (tgt := 18) hx hb dX8_parts_77 (by decide) ?_
                exact ih2 (k + 1) ls _ _ (by omega) (by omega) hM hS (lv_sub hl [2, 3, 4, 5, 1, 0] rfl)
              · have call : (pB (∀ u, u < k → rg_side (md_rg f r cr) i (f 7 (8 * o + u)) (f 8 (8 * o + u)) ≤ 0)) = true := bI_1.mp call
                refine lv_aload_n hx hb dX8_parts_34 rfl (lv_at hl 0 rfl) ?_
                refine lv_iload_n hx hb dX8_parts_35 rfl (lv_at hl 1 rfl) ?_
                refine lv_iload_n hx hb dX8_parts_36 rfl (lv_at hl 3 rfl) ?_
                refine lv_aload_n hx hb dX8_parts_37 rfl (lv_at hl 0 rfl) ?_
                refine md_getr hx hb hts hin_wsX80 hown hC hM 7 (by decide) rfl fl_13 dX8_parts_38 ?_
                refine lv_bipush (v := (8 : Int32)) hx hb dX8_parts_41 (by decide) ?_
                refine lv_iload_n hx hb dX8_parts_43 rfl (lv_at hl 2 rfl) ?_
                refine lv_imul hx hb dX8_parts_44 ?_
                refine mp_top (nI (8 * o)) (pk_mul 8 o) ?_
                refine lv_iload hx hb dX8_parts_45 (lv_at hl 5 rfl) ?_
                refine lv_iadd hx hb dX8_parts_47 ?_
                refine mp_top (nI ((8 * o) + k)) (nI_add (8 * o) k) ?_
                refine md_iald hx hb hC hM 7 rfl (j := (8 * o) + k) (by omega) (by decide) dX8_parts_48 ?_
                refine lv_aload_n hx hb dX8_parts_49 rfl (lv_at hl 0 rfl) ?_
                refine md_getr hx hb hts hin_wsX80 hown hC hM 8 (by decide) rfl fl_16 dX8_parts_50 ?_
                refine lv_bipush (v := (8 : Int32)) hx hb dX8_parts_53 (by decide) ?_
                refine lv_iload_n hx hb dX8_parts_55 rfl (lv_at hl 2 rfl) ?_
                refine lv_imul hx hb dX8_parts_56 ?_
                refine mp_top (nI (8 * o)) (pk_mul 8 o) ?_
                refine lv_iload hx hb dX8_parts_57 (lv_at hl 5 rfl) ?_
                refine lv_iadd hx hb dX8_parts_59 ?_
                refine mp_top (nI ((8 * o) + k)) (nI_add (8 * o) k) ?_
                refine md_iald hx hb hC hM 8 rfl (j := (8 * o) + k) (by omega) (by decide) dX8_parts_60 ?_
                refine mp_calli (va_runV (As := [.int (nI r), .int (nI i), .int (f 7 ((8 * o) + k)), .int (f 8 ((8 * o) + k))]) (rest := []) ⟨hx, hb, hml, hown, hts⟩ (c_X8_left l X G A B h ad n f r i cr (f 7 ((8 * o) + k)) (f 8 ((8 * o) + k)) (by omega) (by omega) (by omega) (by omega) hcr) (cwV 4 hts gX8_parts_X8_left rfl rfl rfl (by decide +kernel) ⟨Nat.le_of_ble_eq_true rfl, Nat.le_of_ble_eq_true rfl⟩) (mp_preV hC hS hM (md_recv hC hM)) rfl rfl hl.1 rfl (lv_room (Nat.le_of_ble_eq_true rfl)) dX8_parts_61 ⟨Nat.le_of_ble_eq_true rfl, Nat.le_of_ble_eq_true rfl⟩) hS (fun H locs hM hS => ?_)
                refine lv_if_gt (tgt := 71) hx hb dX8_parts_64 (by decide) (fun cpos => ?_) (fun cpos => ?_)
                · have cpos := cpos
                  refine lv_iconst (v := (0 : Int32)) hx hb dX8_parts_71 (by decide) ?_
                  refine mp_top (bI (pB (∀ u, u < (k + 1) → rg_side (md_rg f r cr) i (f 7 (8 * o + u)) (f 8 (8 * o + u)) ≤ 0))) (by first | (rw [pB_f (fun q => pB_not.mp call (fun u hu => q u (by omega)))]; rfl) | (rw [pB_f (fun q => absurd (q k (by omega)) (i_nle.mpr cpos))]; rfl)) ?_
                  refine lv_istore (lv' := [(4, .int (bI (pB (∀ u, u < (k + 1) → rg_side (md_rg f r cr) i (f 7 (8 * o + u)) (f 8 (8 * o + u)) ≤ 0)))), (0, .ref h), (1, .int (nI r)), (2, .int (nI o)), (3, .int (nI i)), (5, .int (nI k))]) hx hb dX8_parts_72 hl (by decide) rfl (fun ls hl => ?_)
                  refine lv_iinc (v := nI (k + 1)) (lv' := [(5, .int (nI (k + 1))), (4, .int (bI (pB (∀ u, u < (k + 1) → rg_side (md_rg f r cr) i (f 7 (8 * o + u)) (f 8 (8 * o + u)) ≤ 0)))), (0, .ref h), (1, .int (nI r)), (2, .int (nI o)), (3, .int (nI i))]) hx hb dX8_parts_74 hl (k := 5) rfl (nI_1 k) (by decide) rfl (fun ls hl => ?_)
                  refine lv_goto (tgt := 18) hx hb dX8_parts_77 (by decide) ?_
                  exact ih2 (k + 1) ls _ _ (by omega) (by omega) hM hS (lv_sub hl [2, 3, 4, 5, 1, 0] rfl)
                · have cpos := cpos
                  refine lv_iconst (v := (1 : Int32)) hx hb dX8_parts_67 (by decide) ?_
                  refine lv_goto (tgt := 72) hx hb dX8_parts_68 (by decide) ?_
                  refine mp_top (bI (pB (∀ u, u < (k + 1) → rg_side (md_rg f r cr) i (f 7 (8 * o + u)) (f 8 (8 * o + u)) ≤ 0))) (by rw [pB_t]; rfl; intro u hu; by_cases huk : u < k; exact pB_iff.mp call u huk; rw [show u = k by omega]; exact i_nlt.mp cpos) ?_
                  refine lv_istore (lv' := [(4, .int (bI (pB (∀ u, u < (k + 1) → rg_side (md_rg f r cr) i (f 7 (8 * o + u)) (f 8 (8 * o + u)) ≤ 0)))), (0, .ref h), (1, .int (nI r)), (2, .int (nI o)), (3, .int (nI i)), (5, .int (nI k))]) hx hb dX8_parts_72 hl (by decide) rfl (fun ls hl => ?_)
                  refine lv_iinc (v := nI (k + 1)) (lv' := [(5, .int (nI (k + 1))), (4, .int (bI (pB (∀ u, u < (k + 1) → rg_side (md_rg f r cr) i (f 7 (8 * o + u)) (f 8 (8 * o + u)) ≤ 0)))), (0, .ref h), (1, .int (nI r)), (2, .int (nI o)), (3, .int (nI i))]) hx hb dX8_parts_74 hl (k := 5) rfl (nI_1 k) (by decide) rfl (fun ls hl => ?_)
                  refine lv_goto (tgt := 18) hx hb dX8_parts_77 (by decide) ?_
                  exact ih2 (k + 1) ls _ _ (by omega) (by omega) hM hS (lv_sub hl [2, 3, 4, 5, 1, 0] rfl)
        exact LP18 _ 0 ls _ _ (Nat.lt_succ_self _) (Nat.zero_le _) hM hS (lv_sub hl [2, 3, 4, 5, 1, 0] rfl)
  exact LP2 _ 0 ls _ _ (Nat.lt_succ_self _) (Nat.zero_le _) (fun u hu => absurd hu (Nat.not_lt_zero u)) hM hS (lv_sub hl [1, 2, 3, 0] rfl)
abbrev rmX8_corner : Room := { frames := 1, cells := 0, slots := 0, locals := 22 }
set_option maxHeartbeats 4000000 in
set_option maxRecDepth 100000 in
theorem c_X8_corner (l : Launch) (X : mp_X) (G : mp_G) (A : Nat → Prop) (B : mp_M) (h : Nat) (ad : Nat → Nat) (n : Nat → Int32) (f : Nat → Nat → Int32) (pl tl : Nat) (hpl : n 1 = nI pl) (hpl9 : pl ≤ 12) (htl : n 2 = nI tl) (htl9 : tl ≤ 8) (x y : Int32) : mp_Met l X G A yX8_corner wsX8_corner rmX8_corner ([.ref h, .int x, .int y] : List Value) (md_M G B h ad n f) (fun v M1 => v = some (.int (if pB (md_cornerOK tl x y) then nI (tl + 1) else -1)) ∧ M1 = if pB (md_cornerOK tl x y) then md_M G B h ad (upd n 2 (nI (tl + 1))) (va_up (va_up f 7 (upd (f 7) (8 * pl + tl) x)) 8 (upd (f 8) (8 * pl + tl) y)) else md_M G B h ad n f) 0 0 := by
  refine mp_ofW (cc := cX8_corner) (maxL := 3) (ret := (some .int)) (by decide) rfl (Nat.le_of_ble_eq_true rfl) ?_
  intro p e s m below meth c ls hx hb hr hts hown hlocks hnm hml hC hM hS hl
  have hl : lv_has ls 3 [(0, .ref h), (1, .int x), (2, .int y)] := hl
  have hown : s.vm.findClass RX8 = some m.cls := hown
  have fl_128 := hts (.fieldLink RX8 128 "PlanningBenchModel" "telling" "I") (List.mem_of_getElem? (i := 1) rfl)
  have hin_wsX80 : ∀ w ∈ wsX80, w ∈ wsX8_corner := fun _ h => List.mem_cons_of_mem _ (List.mem_append_right _ h)
  have fl_13 := hts (.fieldLink RX8 13 "PlanningBenchModel" "xs" "[I") (List.mem_of_getElem? (i := 2) rfl)
  have fl_119 := hts (.fieldLink RX8 119 "PlanningBenchModel" "plots" "I") (List.mem_of_getElem? (i := 3) rfl)
  have fl_16 := hts (.fieldLink RX8 16 "PlanningBenchModel" "ys" "[I") (List.mem_of_getElem? (i := 4) rfl)
  refine lv_iload_n hx hb dX8_corner_0 rfl (lv_at hl 1 rfl) ?_
  refine lv_iconst (v := (0 : Int32)) hx hb dX8_corner_1 (by decide) ?_
  refine lv_bipush (v := (63 : Int32)) hx hb dX8_corner_2 (by decide) ?_
  refine mp_calli (va_runS (As := [.int x, .int (0 : Int32), .int (63 : Int32)]) (rest := []) ⟨hx, hb, hml, hown, hts⟩ (c_X8_isIn l X G A (md_M G B h ad n f) x (0 : Int32) (63 : Int32)) (va_cwS 3 hts gX8_corner_X8_isIn rfl rfl rfl (by decide +kernel) ⟨Nat.le_of_ble_eq_true rfl, Nat.le_of_ble_eq_true rfl⟩) (mp_preS hC hS hM) rfl rfl hl.1 rfl (lv_room (Nat.le_of_ble_eq_true rfl)) dX8_corner_4 ⟨Nat.le_of_ble_eq_true rfl, Nat.le_of_ble_eq_true rfl⟩) hS (fun H locs hM hS => ?_)
  refine lv_if_eq (tgt := 29) hx hb dX8_corner_7 (by decide) (fun c1 => ?_) (fun c1 => ?_)
  · have c1 : (pB (md_in x (0 : Int32) (63 : Int32))) = false := bI_0.mp c1
    refine lv_iconst (v := (-1 : Int32)) hx hb dX8_corner_29 (by decide) ?_
    exact mp_iret hx hb hr hlocks (Nat.le_of_ble_eq_true rfl) (Nat.le_of_ble_eq_true rfl) hM hS dX8_corner_30 (have q : pB (md_cornerOK tl x y) = false := pB_f (fun q => by first | exact absurd (pB_t q.1) (by rw [c1]; decide) | exact absurd (pB_t q.2.1) (by rw [c2]; decide) | exact q.2.2 c3); by rw [q]; exact ⟨rfl, rfl⟩)
  · have c1 : (pB (md_in x (0 : Int32) (63 : Int32))) = true := bI_1.mp c1
    refine lv_iload_n hx hb dX8_corner_10 rfl (lv_at hl 2 rfl) ?_
    refine lv_iconst (v := (0 : Int32)) hx hb dX8_corner_11 (by decide) ?_
    refine lv_bipush (v := (63 : Int32)) hx hb dX8_corner_12 (by decide) ?_
    refine mp_calli (va_runS (As := [.int y, .int (0 : Int32), .int (63 : Int32)]) (rest := []) ⟨hx, hb, hml, hown, hts⟩ (c_X8_isIn l X G A (md_M G B h ad n f) y (0 : Int32) (63 : Int32)) (va_cwS 3 hts gX8_corner_X8_isIn rfl rfl rfl (by decide +kernel) ⟨Nat.le_of_ble_eq_true rfl, Nat.le_of_ble_eq_true rfl⟩) (mp_preS hC hS hM) rfl rfl hl.1 rfl (lv_room (Nat.le_of_ble_eq_true rfl)) dX8_corner_14 ⟨Nat.le_of_ble_eq_true rfl, Nat.le_of_ble_eq_true rfl⟩) hS (fun H locs hM hS => ?_)
    refine lv_if_eq (tgt := 29) hx hb dX8_corner_17 (by decide) (fun c2 => ?_) (fun c2 => ?_)
    · have c2 : (pB (md_in y (0 : Int32) (63 : Int32))) = false := bI_0.mp c2
      refine lv_iconst (v := (-1 : Int32)) hx hb dX8_corner_29 (by decide) ?_
      exact mp_iret hx hb hr hlocks (Nat.le_of_ble_eq_true rfl) (Nat.le_of_ble_eq_true rfl) hM hS dX8_corner_30 (have q : pB (md_cornerOK tl x y) = false := pB_f (fun q => by first | exact absurd (pB_t q.1) (by rw [c1]; decide) | exact absurd (pB_t q.2.1) (by rw [c2]; decide) | exact q.2.2 c3); by rw [q]; exact ⟨rfl, rfl⟩)
    · have c2 : (pB (md_in y (0 : Int32) (63 : Int32))) = true := bI_1.mp c2
      refine lv_aload_n hx hb dX8_corner_20 rfl (lv_at hl 0 rfl) ?_
      refine md_geti hx hb hts hin_wsX80 hown hC hM 2 (by decide) rfl fl_128 dX8_corner_21 ?_
      refine mp_top (nI tl) htl ?_
      refine lv_bipush (v := (8 : Int32)) hx hb dX8_corner_24 (by decide) ?_
      refine lv_icmp_ne (tgt := 31) hx hb dX8_corner_26 (by decide) (fun c3 => ?_) (fun c3 => ?_)
      · have c3 := nn_neq (a := tl) (b := 8) (by omega) (by omega) c3
        refine lv_aload_n hx hb dX8_corner_31 rfl (lv_at hl 0 rfl) ?_
        refine md_getr hx hb hts hin_wsX80 hown hC hM 7 (by decide) rfl fl_13 dX8_corner_32 ?_
        refine lv_bipush (v := (8 : Int32)) hx hb dX8_corner_35 (by decide) ?_
        refine lv_aload_n hx hb dX8_corner_37 rfl (lv_at hl 0 rfl) ?_
        refine md_geti hx hb hts hin_wsX80 hown hC hM 1 (by decide) rfl fl_119 dX8_corner_38 ?_
        refine mp_top (nI pl) hpl ?_
        refine lv_imul hx hb dX8_corner_41 ?_
        refine mp_top (nI (8 * pl)) (pk_mul 8 pl) ?_
        refine lv_aload_n hx hb dX8_corner_42 rfl (lv_at hl 0 rfl) ?_
        refine md_geti hx hb hts hin_wsX80 hown hC hM 2 (by decide) rfl fl_128 dX8_corner_43 ?_
        refine mp_top (nI tl) htl ?_
        refine lv_iadd hx hb dX8_corner_46 ?_
        refine mp_top (nI ((8 * pl) + tl)) (nI_add (8 * pl) tl) ?_
        refine lv_iload_n hx hb dX8_corner_47 rfl (lv_at hl 1 rfl) ?_
        refine md_iast hx hb hC hM hS 7 rfl (j := (8 * pl) + tl) (by omega) (by decide) dX8_corner_48 (fun H locs hM hS => ?_)
        refine lv_aload_n hx hb dX8_corner_49 rfl (lv_at hl 0 rfl) ?_
        refine md_getr hx hb hts hin_wsX80 hown hC hM 8 (by decide) rfl fl_16 dX8_corner_50 ?_
        refine lv_bipush (v := (8 : Int32)) hx hb dX8_corner_53 (by decide) ?_
        refine lv_aload_n hx hb dX8_corner_55 rfl (lv_at hl 0 rfl) ?_
        refine md_geti hx hb hts hin_wsX80 hown hC hM 1 (by decide) rfl fl_119 dX8_corner_56 ?_
        refine mp_top (nI pl) hpl ?_
        refine lv_imul hx hb dX8_corner_59 ?_
        refine mp_top (nI (8 * pl)) (pk_mul 8 pl) ?_
        refine lv_aload_n hx hb dX8_corner_60 rfl (lv_at hl 0 rfl) ?_
        refine md_geti hx hb hts hin_wsX80 hown hC hM 2 (by decide) rfl fl_128 dX8_corner_61 ?_
        refine mp_top (nI tl) htl ?_
        refine lv_iadd hx hb dX8_corner_64 ?_
        refine mp_top (nI ((8 * pl) + tl)) (nI_add (8 * pl) tl) ?_
        refine lv_iload_n hx hb dX8_corner_65 rfl (lv_at hl 2 rfl) ?_
        refine md_iast hx hb hC hM hS 8 rfl (j := (8 * pl) + tl) (by omega) (by decide) dX8_corner_66 (fun H locs hM hS => ?_)
        refine lv_aload_n hx hb dX8_corner_67 rfl (lv_at hl 0 rfl) ?_
        refine lv_dup hx hb dX8_corner_68 rfl ?_
        refine md_geti hx hb hts hin_wsX80 hown hC hM 2 (by decide) rfl fl_128 dX8_corner_69 ?_
        refine mp_top (nI tl) htl ?_
        refine lv_iconst (v := (1 : Int32)) hx hb dX8_corner_72 (by decide) ?_
        refine lv_iadd hx hb dX8_corner_73 ?_
        refine mp_top (nI (tl + 1)) (nI_add tl 1) ?_
        refine md_puti hx hb hts hin_wsX80 hown hC hM hS 2 (by decide) rfl rfl rfl fl_128 dX8_corner_74 (fun H locs hM hS => ?_)
        refine lv_aload_n hx hb dX8_corner_77 rfl (lv_at hl 0 rfl) ?_
        refine md_geti hx hb hts hin_wsX80 hown hC hM 2 (by decide) rfl fl_128 dX8_corner_78 ?_
        refine mp_top (nI (tl + 1)) rfl ?_
        exact mp_iret hx hb hr hlocks (Nat.le_of_ble_eq_true rfl) (Nat.le_of_ble_eq_true rfl) hM hS dX8_corner_81 (have q : pB (md_cornerOK tl x y) = true := pB_t ⟨pB_iff.mp c1, pB_iff.mp c2, c3⟩; by rw [q]; exact ⟨rfl, rfl⟩)
      · have c3 := nn_eq (a := tl) (b := 8) (by omega) (by omega) c3
        refine lv_iconst (v := (-1 : Int32)) hx hb dX8_corner_29 (by decide) ?_
        exact mp_iret hx hb hr hlocks (Nat.le_of_ble_eq_true rfl) (Nat.le_of_ble_eq_true rfl) hM hS dX8_corner_30 (have q : pB (md_cornerOK tl x y) = false := pB_f (fun q => by first | exact absurd (pB_t q.1) (by rw [c1]; decide) | exact absurd (pB_t q.2.1) (by rw [c2]; decide) | exact q.2.2 c3); by rw [q]; exact ⟨rfl, rfl⟩)
abbrev rmX8_plot : Room := { frames := 2, cells := 0, slots := 0, locals := 51 }
set_option maxHeartbeats 4000000 in
set_option maxRecDepth 100000 in
theorem c_X8_plot (l : Launch) (X : mp_X) (G : mp_G) (A : Nat → Prop) (B : mp_M) (h : Nat) (ad : Nat → Nat) (n : Nat → Int32) (f : Nat → Nat → Int32) (pl tl : Nat) (co : Nat → Nat) (hpl : n 1 = nI pl) (hpl9 : pl ≤ 12) (htl : n 2 = nI tl) (htl9 : tl ≤ 8) (hco : ∀ o, o < pl → f 6 o = nI (co o) ∧ 0 < co o ∧ co o ≤ 8) : mp_Met l X G A yX8_plot wsX8_plot rmX8_plot ([.ref h] : List Value) (md_M G B h ad n f) (fun v M1 => v = some (.int (if pB (md_plotOK f pl tl co pl) then nI pl else -1)) ∧ M1 = md_M G B h ad (if pB (md_plotOK f pl tl co pl) then upd (upd n 2 (0 : Int32)) 1 (nI (pl + 1)) else (upd n 2 (0 : Int32))) (va_up f 6 (upd (f 6) pl (nI tl)))) 0 0 := by
  refine mp_ofW (cc := cX8_plot) (maxL := 4) (ret := (some .int)) (by decide) rfl (Nat.le_of_ble_eq_true rfl) ?_
  intro p e s m below meth c ls hx hb hr hts hown hlocks hnm hml hC hM hS hl
  have hl : lv_has ls 4 [(0, .ref h)] := hl
  have hown : s.vm.findClass RX8 = some m.cls := hown
  have fl_119 := hts (.fieldLink RX8 119 "PlanningBenchModel" "plots" "I") (List.mem_of_getElem? (i := 1) rfl)
  have hin_wsX80 : ∀ w ∈ wsX80, w ∈ wsX8_plot := fun _ h => List.mem_cons_of_mem _ (List.mem_append_right _ h)
  have fl_7 := hts (.fieldLink RX8 7 "PlanningBenchModel" "corners" "[I") (List.mem_of_getElem? (i := 2) rfl)
  have fl_128 := hts (.fieldLink RX8 128 "PlanningBenchModel" "telling" "I") (List.mem_of_getElem? (i := 3) rfl)
  refine lv_aload_n hx hb dX8_plot_0 rfl (lv_at hl 0 rfl) ?_
  refine md_geti hx hb hts hin_wsX80 hown hC hM 1 (by decide) rfl fl_119 dX8_plot_1 ?_
  refine mp_top (nI pl) hpl ?_
  refine lv_istore_n (lv' := [(1, .int (nI pl)), (0, .ref h)]) hx hb dX8_plot_4 rfl hl (by decide) rfl (fun ls hl => ?_)
  refine lv_aload_n hx hb dX8_plot_5 rfl (lv_at hl 1 rfl) ?_
  refine md_getr hx hb hts hin_wsX80 hown hC hM 6 (by decide) rfl fl_7 dX8_plot_6 ?_
  refine lv_iload_n hx hb dX8_plot_9 rfl (lv_at hl 0 rfl) ?_
  refine lv_aload_n hx hb dX8_plot_10 rfl (lv_at hl 1 rfl) ?_
  refine md_geti hx hb hts hin_wsX80 hown hC hM 2 (by decide) rfl fl_128 dX8_plot_11 ?_
  refine mp_top (nI tl) htl ?_
  refine md_iast hx hb hC hM hS 6 rfl (j := pl) (by omega) (by decide) dX8_plot_14 (fun H locs hM hS => ?_)
  refine lv_aload_n hx hb dX8_plot_15 rfl (lv_at hl 1 rfl) ?_
  refine lv_iconst (v := (0 : Int32)) hx hb dX8_plot_16 (by decide) ?_
  refine md_puti hx hb hts hin_wsX80 hown hC hM hS 2 (by decide) rfl rfl rfl fl_128 dX8_plot_17 (fun H locs hM hS => ?_)
  refine lv_iload_n hx hb dX8_plot_20 rfl (lv_at hl 0 rfl) ?_
  refine lv_bipush (v := (12 : Int32)) hx hb dX8_plot_21 (by decide) ?_
  refine lv_icmp_ge (tgt := 38) hx hb dX8_plot_23 (by decide) (fun c12 => ?_) (fun c12 => ?_)
  · have c12 := nn_le (a := 12) (b := pl) (by omega) (by omega) c12
    refine lv_iconst (v := (0 : Int32)) hx hb dX8_plot_38 (by decide) ?_
    refine mp_top (bI (pB (md_plotOK f pl tl co 0))) (by first | (rw [pB_f (fun q => absurd q.1 (by omega))]; rfl) | (rw [pB_f (fun q => pB_not.mp cok q.2.1)]; rfl)) ?_
    refine lv_istore_n (lv' := [(2, .int (bI (pB (md_plotOK f pl tl co 0)))), (1, .int (nI pl)), (0, .ref h)]) hx hb dX8_plot_39 rfl hl (by decide) rfl (fun ls hl => ?_)
    refine lv_iconst (v := (0 : Int32)) hx hb dX8_plot_40 (by decide) ?_
    refine lv_istore_n (lv' := [(3, .int (0 : Int32)), (2, .int (bI (pB (md_plotOK f pl tl co 0)))), (1, .int (nI pl)), (0, .ref h)]) hx hb dX8_plot_41 rfl hl (by decide) rfl (fun ls hl => ?_)
    have LP42 : ∀ (kk : Nat) (o : Nat) (ls : Array Slot) (H : Heap) (locs : List Loc), pl - o < kk → o ≤ pl → mp_P G.1 A (md_M G B h ad (upd n 2 (0 : Int32)) (va_up f 6 (upd (f 6) pl (nI tl)))) H → va_S A s.heap H locs → lv_has ls 4 [(0, .ref h), (1, .int (nI pl)), (2, .int (bI (pB (md_plotOK f pl tl co o)))), (3, .int (nI o))] → W p l e rmX8_plot s m ([.ref h] : List Value).toArray below meth c H locs 0 0 (MQ below (mp_Q G.1 A (fun v M1 => v = some (.int (if pB (md_plotOK f pl tl co pl) then nI pl else -1)) ∧ M1 = md_M G B h ad (if pB (md_plotOK f pl tl co pl) then upd (upd n 2 (0 : Int32)) 1 (nI (pl + 1)) else (upd n 2 (0 : Int32))) (va_up f 6 (upd (f 6) pl (nI tl))))) ([.ref h] : List Value).toArray s 0 0 A) (F0 m 42 ls []) := by
      intro kk
      induction kk with
      | zero => intro o ls H locs hk; exact absurd hk (Nat.not_lt_zero _)
      | succ kk ih =>
        intro o ls H locs hk ho hM hS hl
        refine lv_iload_n hx hb dX8_plot_42 rfl (lv_at hl 3 rfl) ?_
        refine lv_iload_n hx hb dX8_plot_43 rfl (lv_at hl 1 rfl) ?_
        refine lv_icmp_ge (tgt := 81) hx hb dX8_plot_44 (by decide) (fun hlt => ?_) (fun hlt => ?_)
        · have hlt := nn_le (a := pl) (b := o) (by omega) (by omega) hlt
          refine lv_iload_n hx hb dX8_plot_81 rfl (lv_at hl 2 rfl) ?_
          refine lv_if_ne (tgt := 87) hx hb dX8_plot_82 (by decide) (fun cend => ?_) (fun cend => ?_)
          · have cend : (pB (md_plotOK f pl tl co o)) = true := bI_1.mp cend
            refine lv_aload_n hx hb dX8_plot_87 rfl (lv_at hl 0 rfl) ?_
            refine lv_dup hx hb dX8_plot_88 rfl ?_
            refine md_geti hx hb hts hin_wsX80 hown hC hM 1 (by decide) rfl fl_119 dX8_plot_89 ?_
            refine mp_top (n 1) rfl ?_
            refine mp_top (nI pl) hpl ?_
            refine lv_iconst (v := (1 : Int32)) hx hb dX8_plot_92 (by decide) ?_
            refine lv_iadd hx hb dX8_plot_93 ?_
            refine mp_top (nI (pl + 1)) (nI_add pl 1) ?_
            refine md_puti hx hb hts hin_wsX80 hown hC hM hS 1 (by decide) rfl rfl rfl fl_119 dX8_plot_94 (fun H locs hM hS => ?_)
            refine lv_iload_n hx hb dX8_plot_97 rfl (lv_at hl 1 rfl) ?_
            exact mp_iret hx hb hr hlocks (Nat.le_of_ble_eq_true rfl) (Nat.le_of_ble_eq_true rfl) hM hS dX8_plot_98 (have q : pB (md_plotOK f pl tl co pl) = true := pB_t (by have e : o = pl := (by omega); have q := pB_iff.mp cend; rw [e] at q; exact q); by rw [q]; exact ⟨rfl, rfl⟩)
          · have cend : (pB (md_plotOK f pl tl co o)) = false := bI_0.mp cend
            refine lv_iconst (v := (-1 : Int32)) hx hb dX8_plot_85 (by decide) ?_
            exact mp_iret hx hb hr hlocks (Nat.le_of_ble_eq_true rfl) (Nat.le_of_ble_eq_true rfl) hM hS dX8_plot_86 (have q : pB (md_plotOK f pl tl co pl) = false := pB_f (fun q => pB_not.mp cend ⟨q.1, q.2.1, fun u hu => q.2.2 u (by omega)⟩); by rw [q]; exact ⟨rfl, rfl⟩)
        · have hlt := nn_nle (a := pl) (b := o) (by omega) (by omega) hlt
          refine lv_iload_n hx hb dX8_plot_47 rfl (lv_at hl 2 rfl) ?_
          refine lv_if_eq (tgt := 81) hx hb dX8_plot_48 (by decide) (fun cis => ?_) (fun cis => ?_)
          · have cis : (pB (md_plotOK f pl tl co o)) = false := bI_0.mp cis
            refine lv_iload_n hx hb dX8_plot_81 rfl (lv_at hl 2 rfl) ?_
            refine lv_if_ne (tgt := 87) hx hb dX8_plot_82 (by decide) (fun cend => ?_) (fun cend => ?_)
            · have cend : (pB (md_plotOK f pl tl co o)) = true := bI_1.mp cend
              refine lv_aload_n hx hb dX8_plot_87 rfl (lv_at hl 0 rfl) ?_
              refine lv_dup hx hb dX8_plot_88 rfl ?_
              refine md_geti hx hb hts hin_wsX80 hown hC hM 1 (by decide) rfl fl_119 dX8_plot_89 ?_
              refine mp_top (n 1) rfl ?_
              refine mp_top (nI pl) hpl ?_
              refine lv_iconst (v := (1 : Int32)) hx hb dX8_plot_92 (by decide) ?_
              refine lv_iadd hx hb dX8_plot_93 ?_
              refine mp_top (nI (pl + 1)) (nI_add pl 1) ?_
              refine md_puti hx hb hts hin_wsX80 hown hC hM hS 1 (by decide) rfl rfl rfl fl_119 dX8_plot_94 (fun H locs hM hS => ?_)
              refine lv_iload_n hx hb dX8_plot_97 rfl (lv_at hl 1 rfl) ?_
              exact mp_iret hx hb hr hlocks (Nat.le_of_ble_eq_true rfl) (Nat.le_of_ble_eq_true rfl) hM hS dX8_plot_98 (absurd cend (by rw [cis]; decide))
            · have cend : (pB (md_plotOK f pl tl co o)) = false := bI_0.mp cend
              refine lv_iconst (v := (-1 : Int32)) hx hb dX8_plot_85 (by decide) ?_
              exact mp_iret hx hb hr hlocks (Nat.le_of_ble_eq_true rfl) (Nat.le_of_ble_eq_true rfl) hM hS dX8_plot_86 (have q : pB (md_plotOK f pl tl co pl) = false := pB_f (fun q => pB_not.mp cend ⟨q.1, q.2.1, fun u hu => q.2.2 u (by omega)⟩); by rw [q]; exact ⟨rfl, rfl⟩)
          · have cis : (pB (md_plotOK f pl tl co o)) = true := bI_1.mp cis
            refine lv_aload_n hx hb dX8_plot_51 rfl (lv_at hl 0 rfl) ?_
            refine lv_iload_n hx hb dX8_plot_52 rfl (lv_at hl 1 rfl) ?_
            refine lv_iload_n hx hb dX8_plot_53 rfl (lv_at hl 3 rfl) ?_
            have c0tl : 3 ≤ tl := (pB_iff.mp cis).2.1.1
            have hco1 := hco o (by omega)
            have htl0 := c0tl
            refine mp_calli (va_runV (As := [.int (nI pl), .int (nI o)]) (rest := []) ⟨hx, hb, hml, hown, hts⟩ (c_X8_parts l X G A B h ad (upd n 2 (0 : Int32)) (va_up f 6 (upd (f 6) pl (nI tl))) pl tl (by omega) (by omega) (by omega) (by show upd (f 6) pl (nI tl) pl = _; exact pk_us) o (co o) (by omega) (by omega) (by omega) (by show upd (f 6) pl (nI tl) o = _; rw [pk_un (by omega)]; exact (hco o (by omega)).1)) (cwV 2 hts gX8_plot_X8_parts rfl rfl rfl (by decide +kernel) ⟨Nat.le_of_ble_eq_true rfl, Nat.le_of_ble_eq_true rfl⟩) (mp_preV hC hS hM (md_recv hC hM)) rfl rfl hl.1 rfl (lv_room (Nat.le_of_ble_eq_true rfl)) dX8_plot_54 ⟨Nat.le_of_ble_eq_true rfl, Nat.le_of_ble_eq_true rfl⟩) hS (fun H locs hM hS => ?_)
            refine lv_if_ne (tgt := 69) hx hb dX8_plot_57 (by decide) (fun cp1 => ?_) (fun cp1 => ?_)
            · have cp1 : (pB (rg_parts (md_rg f pl tl) (md_rg f o (co o)))) = true := bI_1.mp cp1
              refine lv_iconst (v := (1 : Int32)) hx hb dX8_plot_69 (by decide) ?_
              refine lv_goto (tgt := 74) hx hb dX8_plot_70 (by decide) ?_
              refine mp_top (bI (pB (md_plotOK f pl tl co (o + 1)))) (by rw [pB_t]; rfl; refine ⟨(pB_iff.mp cis).1, (pB_iff.mp cis).2.1, fun u hu => ?_⟩; by_cases huo : u < o; exact (pB_iff.mp cis).2.2 u huo; rw [show u = o by omega]; first | exact Or.inl (pB_iff.mp cp1) | exact Or.inr (pB_iff.mp cp2)) ?_
              refine lv_istore_n (lv' := [(2, .int (bI (pB (md_plotOK f pl tl co (o + 1))))), (0, .ref h), (1, .int (nI pl)), (3, .int (nI o))]) hx hb dX8_plot_74 rfl hl (by decide) rfl (fun ls hl => ?_)
              refine lv_iinc (v := nI (o + 1)) (lv' := [(3, .int (nI (o + 1))), (2, .int (bI (pB (md_plotOK f pl tl co (o + 1))))), (0, .ref h), (1, .int (nI pl))]) hx hb dX8_plot_75 hl (k := 3) rfl (nI_1 o) (by decide) rfl (fun ls hl => ?_)
              refine lv_goto (tgt := 42) hx hb dX8_plot_78 (by decide) ?_
              exact ih (o + 1) ls _ _ (by omega) (by omega) hM hS (lv_sub hl [2, 3, 1, 0] rfl)
            · have cp1 : (pB (rg_parts (md_rg f pl tl) (md_rg f o (co o)))) = false := bI_0.mp cp1
              refine lv_aload_n hx hb dX8_plot_60 rfl (lv_at hl 0 rfl) ?_
              refine lv_iload_n hx hb dX8_plot_61 rfl (lv_at hl 3 rfl) ?_
              refine lv_iload_n hx hb dX8_plot_62 rfl (lv_at hl 1 rfl) ?_
              have hco1 := hco o (by omega)
              have htl0 := c0tl
              refine mp_calli (va_runV (As := [.int (nI o), .int (nI pl)]) (rest := []) ⟨hx, hb, hml, hown, hts⟩ (c_X8_parts l X G A B h ad (upd n 2 (0 : Int32)) (va_up f 6 (upd (f 6) pl (nI tl))) o (co o) (by omega) (by omega) (by omega) (by show upd (f 6) pl (nI tl) o = _; rw [pk_un (by omega)]; exact (hco o (by omega)).1) pl tl (by omega) (by omega) (by omega) (by show upd (f 6) pl (nI tl) pl = _; exact pk_us)) (cwV 2 hts gX8_plot_X8_parts rfl rfl rfl (by decide +kernel) ⟨Nat.le_of_ble_eq_true rfl, Nat.le_of_ble_eq_true rfl⟩) (mp_preV hC hS hM (md_recv hC hM)) rfl rfl hl.1 rfl (lv_room (Nat.le_of_ble_eq_true rfl)) dX8_plot_63 ⟨Nat.le_of_ble_eq_true rfl, Nat.le_of_ble_eq_true rfl⟩) hS (fun H locs hM hS => ?_)
              refine lv_if_eq (tgt := 73) hx hb dX8_plot_66 (by decide) (fun cp2 => ?_) (fun cp2 => ?_)
              · have cp2 : (pB (rg_parts (md_rg f o (co o)) (md_rg f pl tl))) = false := bI_0.mp cp2
                refine lv_iconst (v := (0 : Int32)) hx hb dX8_plot_73 (by decide) ?_
                refine mp_top (bI (pB (md_plotOK f pl tl co (o + 1)))) (by rw [pB_f (fun q => (q.2.2 o (by omega)).elim (pB_not.mp cp1) (pB_not.mp cp2))]; rfl) ?_
                refine lv_istore_n (lv' := [(2, .int (bI (pB (md_plotOK f pl tl co (o + 1))))), (0, .ref h), (1, .int (nI pl)), (3, .int (nI o))]) hx hb dX8_plot_74 rfl hl (by decide) rfl (fun ls hl => ?_)
                refine lv_iinc (v := nI (o + 1)) (lv' := [(3, .int (nI (o + 1))), (2, .int (bI (pB (md_plotOK f pl tl co (o + 1))))), (0, .ref h), (1, .int (nI pl))]) hx hb dX8_plot_75 hl (k := 3) rfl (nI_1 o) (by decide) rfl (fun ls hl => ?_)
                refine lv_goto (tgt := 42) hx hb dX8_plot_78 (by decide) ?_
                exact ih (o + 1) ls _ _ (by omega) (by omega) hM hS (lv_sub hl [2, 3, 1, 0] rfl)
              · have cp2 : (pB (rg_parts (md_rg f o (co o)) (md_rg f pl tl))) = true := bI_1.mp cp2
                refine lv_iconst (v := (1 : Int32)) hx hb dX8_plot_69 (by decide) ?_
                refine lv_goto (tgt := 74) hx hb dX8_plot_70 (by decide) ?_
                refine mp_top (bI (pB (md_plotOK f pl tl co (o + 1)))) (by rw [pB_t]; rfl; refine ⟨(pB_iff.mp cis).1, (pB_iff.mp cis).2.1, fun u hu => ?_⟩; by_cases huo : u < o; exact (pB_iff.mp cis).2.2 u huo; rw [show u = o by omega]; first | exact Or.inl (pB_iff.mp cp1) | exact Or.inr (pB_iff.mp cp2)) ?_
                refine lv_istore_n (lv' := [(2, .int (bI (pB (md_plotOK f pl tl co (o + 1))))), (0, .ref h), (1, .int (nI pl)), (3, .int (nI o))]) hx hb dX8_plot_74 rfl hl (by decide) rfl (fun ls hl => ?_)
                refine lv_iinc (v := nI (o + 1)) (lv' := [(3, .int (nI (o + 1))), (2, .int (bI (pB (md_plotOK f pl tl co (o + 1))))), (0, .ref h), (1, .int (nI pl))]) hx hb dX8_plot_75 hl (k := 3) rfl (nI_1 o) (by decide) rfl (fun ls hl => ?_)
                refine lv_goto (tgt := 42) hx hb dX8_plot_78 (by decide) ?_
                exact ih (o + 1) ls _ _ (by omega) (by omega) hM hS (lv_sub hl [2, 3, 1, 0] rfl)
    exact LP42 _ 0 ls _ _ (Nat.lt_succ_self _) (Nat.zero_le _) hM hS (lv_sub hl [3, 2, 1, 0] rfl)
  · have c12 := nn_nle (a := 12) (b := pl) (by omega) (by omega) c12
    refine lv_aload_n hx hb dX8_plot_26 rfl (lv_at hl 1 rfl) ?_
    refine lv_iload_n hx hb dX8_plot_27 rfl (lv_at hl 0 rfl) ?_
    refine mp_calli (va_runV (As := [.int (nI pl)]) (rest := []) ⟨hx, hb, hml, hown, hts⟩ (c_X8_isRing l X G A B h ad (upd n 2 (0 : Int32)) (va_up f 6 (upd (f 6) pl (nI tl))) pl tl (by omega) (by omega) (by show upd (f 6) pl (nI tl) pl = _; exact pk_us)) (cwV 1 hts gX8_plot_X8_isRing rfl rfl rfl (by decide +kernel) ⟨Nat.le_of_ble_eq_true rfl, Nat.le_of_ble_eq_true rfl⟩) (mp_preV hC hS hM (md_recv hC hM)) rfl rfl hl.1 rfl (lv_room (Nat.le_of_ble_eq_true rfl)) dX8_plot_28 ⟨Nat.le_of_ble_eq_true rfl, Nat.le_of_ble_eq_true rfl⟩) hS (fun H locs hM hS => ?_)
    refine lv_if_eq (tgt := 38) hx hb dX8_plot_31 (by decide) (fun cok => ?_) (fun cok => ?_)
    · have cok : (pB (rg_ok (md_rg f pl tl))) = false := bI_0.mp cok
      refine lv_iconst (v := (0 : Int32)) hx hb dX8_plot_38 (by decide) ?_
      refine mp_top (bI (pB (md_plotOK f pl tl co 0))) (by first | (rw [pB_f (fun q => absurd q.1 (by omega))]; rfl) | (rw [pB_f (fun q => pB_not.mp cok q.2.1)]; rfl)) ?_
      refine lv_istore_n (lv' := [(2, .int (bI (pB (md_plotOK f pl tl co 0)))), (1, .int (nI pl)), (0, .ref h)]) hx hb dX8_plot_39 rfl hl (by decide) rfl (fun ls hl => ?_)
      refine lv_iconst (v := (0 : Int32)) hx hb dX8_plot_40 (by decide) ?_
      refine lv_istore_n (lv' := [(3, .int (0 : Int32)), (2, .int (bI (pB (md_plotOK f pl tl co 0)))), (1, .int (nI pl)), (0, .ref h)]) hx hb dX8_plot_41 rfl hl (by decide) rfl (fun ls hl => ?_)
      have LP42 : ∀ (kk : Nat) (o : Nat) (ls : Array Slot) (H : Heap) (locs : List Loc), pl - o < kk → o ≤ pl → mp_P G.1 A (md_M G B h ad (upd n 2 (0 : Int32)) (va_up f 6 (upd (f 6) pl (nI tl)))) H → va_S A s.heap H locs → lv_has ls 4 [(0, .ref h), (1, .int (nI pl)), (2, .int (bI (pB (md_plotOK f pl tl co o)))), (3, .int (nI o))] → W p l e rmX8_plot s m ([.ref h] : List Value).toArray below meth c H locs 0 0 (MQ below (mp_Q G.1 A (fun v M1 => v = some (.int (if pB (md_plotOK f pl tl co pl) then nI pl else -1)) ∧ M1 = md_M G B h ad (if pB (md_plotOK f pl tl co pl) then upd (upd n 2 (0 : Int32)) 1 (nI (pl + 1)) else (upd n 2 (0 : Int32))) (va_up f 6 (upd (f 6) pl (nI tl))))) ([.ref h] : List Value).toArray s 0 0 A) (F0 m 42 ls []) := by
        intro kk
        induction kk with
        | zero => intro o ls H locs hk; exact absurd hk (Nat.not_lt_zero _)
        | succ kk ih =>
          intro o ls H locs hk ho hM hS hl
          refine lv_iload_n hx hb dX8_plot_42 rfl (lv_at hl 3 rfl) ?_
          refine lv_iload_n hx hb dX8_plot_43 rfl (lv_at hl 1 rfl) ?_
          refine lv_icmp_ge (tgt := 81) hx hb dX8_plot_44 (by decide) (fun hlt => ?_) (fun hlt => ?_)
          · have hlt := nn_le (a := pl) (b := o) (by omega) (by omega) hlt
            refine lv_iload_n hx hb dX8_plot_81 rfl (lv_at hl 2 rfl) ?_
            refine lv_if_ne (tgt := 87) hx hb dX8_plot_82 (by decide) (fun cend => ?_) (fun cend => ?_)
            · have cend : (pB (md_plotOK f pl tl co o)) = true := bI_1.mp cend
              refine lv_aload_n hx hb dX8_plot_87 rfl (lv_at hl 0 rfl) ?_
              refine lv_dup hx hb dX8_plot_88 rfl ?_
              refine md_geti hx hb hts hin_wsX80 hown hC hM 1 (by decide) rfl fl_119 dX8_plot_89 ?_
              refine mp_top (n 1) rfl ?_
              refine mp_top (nI pl) hpl ?_
              refine lv_iconst (v := (1 : Int32)) hx hb dX8_plot_92 (by decide) ?_
              refine lv_iadd hx hb dX8_plot_93 ?_
              refine mp_top (nI (pl + 1)) (nI_add pl 1) ?_
              refine md_puti hx hb hts hin_wsX80 hown hC hM hS 1 (by decide) rfl rfl rfl fl_119 dX8_plot_94 (fun H locs hM hS => ?_)
              refine lv_iload_n hx hb dX8_plot_97 rfl (lv_at hl 1 rfl) ?_
              exact mp_iret hx hb hr hlocks (Nat.le_of_ble_eq_true rfl) (Nat.le_of_ble_eq_true rfl) hM hS dX8_plot_98 (have q : pB (md_plotOK f pl tl co pl) = true := pB_t (by have e : o = pl := (by omega); have q := pB_iff.mp cend; rw [e] at q; exact q); by rw [q]; exact ⟨rfl, rfl⟩)
            · have cend : (pB (md_plotOK f pl tl co o)) = false := bI_0.mp cend
              refine lv_iconst (v := (-1 : Int32)) hx hb dX8_plot_85 (by decide) ?_
              exact mp_iret hx hb hr hlocks (Nat.le_of_ble_eq_true rfl) (Nat.le_of_ble_eq_true rfl) hM hS dX8_plot_86 (have q : pB (md_plotOK f pl tl co pl) = false := pB_f (fun q => pB_not.mp cend ⟨q.1, q.2.1, fun u hu => q.2.2 u (by omega)⟩); by rw [q]; exact ⟨rfl, rfl⟩)
          · have hlt := nn_nle (a := pl) (b := o) (by omega) (by omega) hlt
            refine lv_iload_n hx hb dX8_plot_47 rfl (lv_at hl 2 rfl) ?_
            refine lv_if_eq (tgt := 81) hx hb dX8_plot_48 (by decide) (fun cis => ?_) (fun cis => ?_)
            · have cis : (pB (md_plotOK f pl tl co o)) = false := bI_0.mp cis
              refine lv_iload_n hx hb dX8_plot_81 rfl (lv_at hl 2 rfl) ?_
              refine lv_if_ne (tgt := 87) hx hb dX8_plot_82 (by decide) (fun cend => ?_) (fun cend => ?_)
              · have cend : (pB (md_plotOK f pl tl co o)) = true := bI_1.mp cend
                refine lv_aload_n hx hb dX8_plot_87 rfl (lv_at hl 0 rfl) ?_
                refine lv_dup hx hb dX8_plot_88 rfl ?_
                refine md_geti hx hb hts hin_wsX80 hown hC hM 1 (by decide) rfl fl_119 dX8_plot_89 ?_
                refine mp_top (n 1) rfl ?_
                refine mp_top (nI pl) hpl ?_
                refine lv_iconst (v := (1 : Int32)) hx hb dX8_plot_92 (by decide) ?_
                refine lv_iadd hx hb dX8_plot_93 ?_
                refine mp_top (nI (pl + 1)) (nI_add pl 1) ?_
                refine md_puti hx hb hts hin_wsX80 hown hC hM hS 1 (by decide) rfl rfl rfl fl_119 dX8_plot_94 (fun H locs hM hS => ?_)
                refine lv_iload_n hx hb dX8_plot_97 rfl (lv_at hl 1 rfl) ?_
                exact mp_iret hx hb hr hlocks (Nat.le_of_ble_eq_true rfl) (Nat.le_of_ble_eq_true rfl) hM hS dX8_plot_98 (absurd cend (by rw [cis]; decide))
              · have cend : (pB (md_plotOK f pl tl co o)) = false := bI_0.mp cend
                refine lv_iconst (v := (-1 : Int32)) hx hb dX8_plot_85 (by decide) ?_
                exact mp_iret hx hb hr hlocks (Nat.le_of_ble_eq_true rfl) (Nat.le_of_ble_eq_true rfl) hM hS dX8_plot_86 (have q : pB (md_plotOK f pl tl co pl) = false := pB_f (fun q => pB_not.mp cend ⟨q.1, q.2.1, fun u hu => q.2.2 u (by omega)⟩); by rw [q]; exact ⟨rfl, rfl⟩)
            · have cis : (pB (md_plotOK f pl tl co o)) = true := bI_1.mp cis
              refine lv_aload_n hx hb dX8_plot_51 rfl (lv_at hl 0 rfl) ?_
              refine lv_iload_n hx hb dX8_plot_52 rfl (lv_at hl 1 rfl) ?_
              refine lv_iload_n hx hb dX8_plot_53 rfl (lv_at hl 3 rfl) ?_
              have c0tl : 3 ≤ tl := (pB_iff.mp cis).2.1.1
              have hco1 := hco o (by omega)
              have htl0 := c0tl
              refine mp_calli (va_runV (As := [.int (nI pl), .int (nI o)]) (rest := []) ⟨hx, hb, hml, hown, hts⟩ (c_X8_parts l X G A B h ad (upd n 2 (0 : Int32)) (va_up f 6 (upd (f 6) pl (nI tl))) pl tl (by omega) (by omega) (by omega) (by show upd (f 6) pl (nI tl) pl = _; exact pk_us) o (co o) (by omega) (by omega) (by omega) (by show upd (f 6) pl (nI tl) o = _; rw [pk_un (by omega)]; exact (hco o (by omega)).1)) (cwV 2 hts gX8_plot_X8_parts rfl rfl rfl (by decide +kernel) ⟨Nat.le_of_ble_eq_true rfl, Nat.le_of_ble_eq_true rfl⟩) (mp_preV hC hS hM (md_recv hC hM)) rfl rfl hl.1 rfl (lv_room (Nat.le_of_ble_eq_true rfl)) dX8_plot_54 ⟨Nat.le_of_ble_eq_true rfl, Nat.le_of_ble_eq_true rfl⟩) hS (fun H locs hM hS => ?_)
              refine lv_if_ne (tgt := 69) hx hb dX8_plot_57 (by decide) (fun cp1 => ?_) (fun cp1 => ?_)
              · have cp1 : (pB (rg_parts (md_rg f pl tl) (md_rg f o (co o)))) = true := bI_1.mp cp1
                refine lv_iconst (v := (1 : Int32)) hx hb dX8_plot_69 (by decide) ?_
                refine lv_goto (tgt := 74) hx hb dX8_plot_70 (by decide) ?_
                refine mp_top (bI (pB (md_plotOK f pl tl co (o + 1)))) (by rw [pB_t]; rfl; refine ⟨(pB_iff.mp cis).1, (pB_iff.mp cis).2.1, fun u hu => ?_⟩; by_cases huo : u < o; exact (pB_iff.mp cis).2.2 u huo; rw [show u = o by omega]; first | exact Or.inl (pB_iff.mp cp1) | exact Or.inr (pB_iff.mp cp2)) ?_
                refine lv_istore_n (lv' := [(2, .int (bI (pB (md_plotOK f pl tl co (o + 1))))), (0, .ref h), (1, .int (nI pl)), (3, .int (nI o))]) hx hb dX8_plot_74 rfl hl (by decide) rfl (fun ls hl => ?_)
                refine lv_iinc (v := nI (o + 1)) (lv' := [(3, .int (nI (o + 1))), (2, .int (bI (pB (md_plotOK f pl tl co (o + 1))))), (0, .ref h), (1, .int (nI pl))]) hx hb dX8_plot_75 hl (k := 3) rfl (nI_1 o) (by decide) rfl (fun ls hl => ?_)
                refine lv_goto (tgt := 42) hx hb dX8_plot_78 (by decide) ?_
                exact ih (o + 1) ls _ _ (by omega) (by omega) hM hS (lv_sub hl [2, 3, 1, 0] rfl)
              · have cp1 : (pB (rg_parts (md_rg f pl tl) (md_rg f o (co o)))) = false := bI_0.mp cp1
                refine lv_aload_n hx hb dX8_plot_60 rfl (lv_at hl 0 rfl) ?_
                refine lv_iload_n hx hb dX8_plot_61 rfl (lv_at hl 3 rfl) ?_
                refine lv_iload_n hx hb dX8_plot_62 rfl (lv_at hl 1 rfl) ?_
                have hco1 := hco o (by omega)
                have htl0 := c0tl
                refine mp_calli (va_runV (As := [.int (nI o), .int (nI pl)]) (rest := []) ⟨hx, hb, hml, hown, hts⟩ (c_X8_parts l X G A B h ad (upd n 2 (0 : Int32)) (va_up f 6 (upd (f 6) pl (nI tl))) o (co o) (by omega) (by omega) (by omega) (by show upd (f 6) pl (nI tl) o = _; rw [pk_un (by omega)]; exact (hco o (by omega)).1) pl tl (by omega) (by omega) (by omega) (by show upd (f 6) pl (nI tl) pl = _; exact pk_us)) (cwV 2 hts gX8_plot_X8_parts rfl rfl rfl (by decide +kernel) ⟨Nat.le_of_ble_eq_true rfl, Nat.le_of_ble_eq_true rfl⟩) (mp_preV hC hS hM (md_recv hC hM)) rfl rfl hl.1 rfl (lv_room (Nat.le_of_ble_eq_true rfl)) dX8_plot_63 ⟨Nat.le_of_ble_eq_true rfl, Nat.le_of_ble_eq_true rfl⟩) hS (fun H locs hM hS => ?_)
                refine lv_if_eq (tgt := 73) hx hb dX8_plot_66 (by decide) (fun cp2 => ?_) (fun cp2 => ?_)
                · have cp2 : (pB (rg_parts (md_rg f o (co o)) (md_rg f pl tl))) = false := bI_0.mp cp2
                  refine lv_iconst (v := (0 : Int32)) hx hb dX8_plot_73 (by decide) ?_
                  refine mp_top (bI (pB (md_plotOK f pl tl co (o + 1)))) (by rw [pB_f (fun q => (q.2.2 o (by omega)).elim (pB_not.mp cp1) (pB_not.mp cp2))]; rfl) ?_
                  refine lv_istore_n (lv' := [(2, .int (bI (pB (md_plotOK f pl tl co (o + 1))))), (0, .ref h), (1, .int (nI pl)), (3, .int (nI o))]) hx hb dX8_plot_74 rfl hl (by decide) rfl (fun ls hl => ?_)
                  refine lv_iinc (v := nI (o + 1)) (lv' := [(3, .int (nI (o + 1))), (2, .int (bI (pB (md_plotOK f pl tl co (o + 1))))), (0, .ref h), (1, .int (nI pl))]) hx hb dX8_plot_75 hl (k := 3) rfl (nI_1 o) (by decide) rfl (fun ls hl => ?_)
                  refine lv_goto (tgt := 42) hx hb dX8_plot_78 (by decide) ?_
                  exact ih (o + 1) ls _ _ (by omega) (by omega) hM hS (lv_sub hl [2, 3, 1, 0] rfl)
                · have cp2 : (pB (rg_parts (md_rg f o (co o)) (md_rg f pl tl))) = true := bI_1.mp cp2
                  refine lv_iconst (v := (1 : Int32)) hx hb dX8_plot_69 (by decide) ?_
                  refine lv_goto (tgt := 74) hx hb dX8_plot_70 (by decide) ?_
                  refine mp_top (bI (pB (md_plotOK f pl tl co (o + 1)))) (by rw [pB_t]; rfl; refine ⟨(pB_iff.mp cis).1, (pB_iff.mp cis).2.1, fun u hu => ?_⟩; by_cases huo : u < o; exact (pB_iff.mp cis).2.2 u huo; rw [show u = o by omega]; first | exact Or.inl (pB_iff.mp cp1) | exact Or.inr (pB_iff.mp cp2)) ?_
                  refine lv_istore_n (lv' := [(2, .int (bI (pB (md_plotOK f pl tl co (o + 1))))), (0, .ref h), (1, .int (nI pl)), (3, .int (nI o))]) hx hb dX8_plot_74 rfl hl (by decide) rfl (fun ls hl => ?_)
                  refine lv_iinc (v := nI (o + 1)) (lv' := [(3, .int (nI (o + 1))), (2, .int (bI (pB (md_plotOK f pl tl co (o + 1))))), (0, .ref h), (1, .int (nI pl))]) hx hb dX8_plot_75 hl (k := 3) rfl (nI_1 o) (by decide) rfl (fun ls hl => ?_)
                  refine lv_goto (tgt := 42) hx hb dX8_plot_78 (by decide) ?_
                  exact ih (o + 1) ls _ _ (by omega) (by omega) hM hS (lv_sub hl [2, 3, 1, 0] rfl)
      exact LP42 _ 0 ls _ _ (Nat.lt_succ_self _) (Nat.zero_le _) hM hS (lv_sub hl [3, 2, 1, 0] rfl)
    · have cok : (pB (rg_ok (md_rg f pl tl))) = true := bI_1.mp cok
      refine lv_iconst (v := (1 : Int32)) hx hb dX8_plot_34 (by decide) ?_
      refine lv_goto (tgt := 39) hx hb dX8_plot_35 (by decide) ?_
      refine mp_top (bI (pB (md_plotOK f pl tl co 0))) (by rw [pB_t ⟨c12, pB_iff.mp cok, fun o ho => absurd ho (Nat.not_lt_zero o)⟩]; rfl) ?_
      refine lv_istore_n (lv' := [(2, .int (bI (pB (md_plotOK f pl tl co 0)))), (1, .int (nI pl)), (0, .ref h)]) hx hb dX8_plot_39 rfl hl (by decide) rfl (fun ls hl => ?_)
      refine lv_iconst (v := (0 : Int32)) hx hb dX8_plot_40 (by decide) ?_
      refine lv_istore_n (lv' := [(3, .int (0 : Int32)), (2, .int (bI (pB (md_plotOK f pl tl co 0)))), (1, .int (nI pl)), (0, .ref h)]) hx hb dX8_plot_41 rfl hl (by decide) rfl (fun ls hl => ?_)
      have LP42 : ∀ (kk : Nat) (o : Nat) (ls : Array Slot) (H : Heap) (locs : List Loc), pl - o < kk → o ≤ pl → mp_P G.1 A (md_M G B h ad (upd n 2 (0 : Int32)) (va_up f 6 (upd (f 6) pl (nI tl)))) H → va_S A s.heap H locs → lv_has ls 4 [(0, .ref h), (1, .int (nI pl)), (2, .int (bI (pB (md_plotOK f pl tl co o)))), (3, .int (nI o))] → W p l e rmX8_plot s m ([.ref h] : List Value).toArray below meth c H locs 0 0 (MQ below (mp_Q G.1 A (fun v M1 => v = some (.int (if pB (md_plotOK f pl tl co pl) then nI pl else -1)) ∧ M1 = md_M G B h ad (if pB (md_plotOK f pl tl co pl) then upd (upd n 2 (0 : Int32)) 1 (nI (pl + 1)) else (upd n 2 (0 : Int32))) (va_up f 6 (upd (f 6) pl (nI tl))))) ([.ref h] : List Value).toArray s 0 0 A) (F0 m 42 ls []) := by
        intro kk
        induction kk with
        | zero => intro o ls H locs hk; exact absurd hk (Nat.not_lt_zero _)
        | succ kk ih =>
          intro o ls H locs hk ho hM hS hl
          refine lv_iload_n hx hb dX8_plot_42 rfl (lv_at hl 3 rfl) ?_
          refine lv_iload_n hx hb dX8_plot_43 rfl (lv_at hl 1 rfl) ?_
          refine lv_icmp_ge (tgt := 81) hx hb dX8_plot_44 (by decide) (fun hlt => ?_) (fun hlt => ?_)
          · have hlt := nn_le (a := pl) (b := o) (by omega) (by omega) hlt
            refine lv_iload_n hx hb dX8_plot_81 rfl (lv_at hl 2 rfl) ?_
            refine lv_if_ne (tgt := 87) hx hb dX8_plot_82 (by decide) (fun cend => ?_) (fun cend => ?_)
            · have cend : (pB (md_plotOK f pl tl co o)) = true := bI_1.mp cend
              refine lv_aload_n hx hb dX8_plot_87 rfl (lv_at hl 0 rfl) ?_
              refine lv_dup hx hb dX8_plot_88 rfl ?_
              refine md_geti hx hb hts hin_wsX80 hown hC hM 1 (by decide) rfl fl_119 dX8_plot_89 ?_
              refine mp_top (n 1) rfl ?_
              refine mp_top (nI pl) hpl ?_
              refine lv_iconst (v := (1 : Int32)) hx hb dX8_plot_92 (by decide) ?_
              refine lv_iadd hx hb dX8_plot_93 ?_
              refine mp_top (nI (pl + 1)) (nI_add pl 1) ?_
              refine md_puti hx hb hts hin_wsX80 hown hC hM hS 1 (by decide) rfl rfl rfl fl_119 dX8_plot_94 (fun H locs hM hS => ?_)
              refine lv_iload_n hx hb dX8_plot_97 rfl (lv_at hl 1 rfl) ?_
              exact mp_iret hx hb hr hlocks (Nat.le_of_ble_eq_true rfl) (Nat.le_of_ble_eq_true rfl) hM hS dX8_plot_98 (have q : pB (md_plotOK f pl tl co pl) = true := pB_t (by have e : o = pl := (by omega); have q := pB_iff.mp cend; rw [e] at q; exact q); by rw [q]; exact ⟨rfl, rfl⟩)
            · have cend : (pB (md_plotOK f pl tl co o)) = false := bI_0.mp cend
              refine lv_iconst (v := (-1 : Int32)) hx hb dX8_plot_85 (by decide) ?_
              exact mp_iret hx hb hr hlocks (Nat.le_of_ble_eq_true rfl) (Nat.le_of_ble_eq_true rfl) hM hS dX8_plot_86 (have q : pB (md_plotOK f pl tl co pl) = false := pB_f (fun q => pB_not.mp cend ⟨q.1, q.2.1, fun u hu => q.2.2 u (by omega)⟩); by rw [q]; exact ⟨rfl, rfl⟩)
          · have hlt := nn_nle (a := pl) (b := o) (by omega) (by omega) hlt
            refine lv_iload_n hx hb dX8_plot_47 rfl (lv_at hl 2 rfl) ?_
            refine lv_if_eq (tgt := 81) hx hb dX8_plot_48 (by decide) (fun cis => ?_) (fun cis => ?_)
            · have cis : (pB (md_plotOK f pl tl co o)) = false := bI_0.mp cis
              refine lv_iload_n hx hb dX8_plot_81 rfl (lv_at hl 2 rfl) ?_
              refine lv_if_ne (tgt := 87) hx hb dX8_plot_82 (by decide) (fun cend => ?_) (fun cend => ?_)
              · have cend : (pB (md_plotOK f pl tl co o)) = true := bI_1.mp cend
                refine lv_aload_n hx hb dX8_plot_87 rfl (lv_at hl 0 rfl) ?_
                refine lv_dup hx hb dX8_plot_88 rfl ?_
                refine md_geti hx hb hts hin_wsX80 hown hC hM 1 (by decide) rfl fl_119 dX8_plot_89 ?_
                refine mp_top (n 1) rfl ?_
                refine mp_top (nI pl) hpl ?_
                refine lv_iconst (v := (1 : Int32)) hx hb dX8_plot_92 (by decide) ?_
                refine lv_iadd hx hb dX8_plot_93 ?_
                refine mp_top (nI (pl + 1)) (nI_add pl 1) ?_
                refine md_puti hx hb hts hin_wsX80 hown hC hM hS 1 (by decide) rfl rfl rfl fl_119 dX8_plot_94 (fun H locs hM hS => ?_)
                refine lv_iload_n hx hb dX8_plot_97 rfl (lv_at hl 1 rfl) ?_
                exact mp_iret hx hb hr hlocks (Nat.le_of_ble_eq_true rfl) (Nat.le_of_ble_eq_true rfl) hM hS dX8_plot_98 (absurd cend (by rw [cis]; decide))
              · have cend : (pB (md_plotOK f pl tl co o)) = false := bI_0.mp cend
                refine lv_iconst (v := (-1 : Int32)) hx hb dX8_plot_85 (by decide) ?_
                exact mp_iret hx hb hr hlocks (Nat.le_of_ble_eq_true rfl) (Nat.le_of_ble_eq_true rfl) hM hS dX8_plot_86 (have q : pB (md_plotOK f pl tl co pl) = false := pB_f (fun q => pB_not.mp cend ⟨q.1, q.2.1, fun u hu => q.2.2 u (by omega)⟩); by rw [q]; exact ⟨rfl, rfl⟩)
            · have cis : (pB (md_plotOK f pl tl co o)) = true := bI_1.mp cis
              refine lv_aload_n hx hb dX8_plot_51 rfl (lv_at hl 0 rfl) ?_
              refine lv_iload_n hx hb dX8_plot_52 rfl (lv_at hl 1 rfl) ?_
              refine lv_iload_n hx hb dX8_plot_53 rfl (lv_at hl 3 rfl) ?_
              have c0tl : 3 ≤ tl := (pB_iff.mp cis).2.1.1
              have hco1 := hco o (by omega)
              have htl0 := c0tl
              refine mp_calli (va_runV (As := [.int (nI pl), .int (nI o)]) (rest := []) ⟨hx, hb, hml, hown, hts⟩ (c_X8_parts l X G A B h ad (upd n 2 (0 : Int32)) (va_up f 6 (upd (f 6) pl (nI tl))) pl tl (by omega) (by omega) (by omega) (by show upd (f 6) pl (nI tl) pl = _; exact pk_us) o (co o) (by omega) (by omega) (by omega) (by show upd (f 6) pl (nI tl) o = _; rw [pk_un (by omega)]; exact (hco o (by omega)).1)) (cwV 2 hts gX8_plot_X8_parts rfl rfl rfl (by decide +kernel) ⟨Nat.le_of_ble_eq_true rfl, Nat.le_of_ble_eq_true rfl⟩) (mp_preV hC hS hM (md_recv hC hM)) rfl rfl hl.1 rfl (lv_room (Nat.le_of_ble_eq_true rfl)) dX8_plot_54 ⟨Nat.le_of_ble_eq_true rfl, Nat.le_of_ble_eq_true rfl⟩) hS (fun H locs hM hS => ?_)
              refine lv_if_ne (tgt := 69) hx hb dX8_plot_57 (by decide) (fun cp1 => ?_) (fun cp1 => ?_)
              · have cp1 : (pB (rg_parts (md_rg f pl tl) (md_rg f o (co o)))) = true := bI_1.mp cp1
                refine lv_iconst (v := (1 : Int32)) hx hb dX8_plot_69 (by decide) ?_
                refine lv_goto (tgt := 74) hx hb dX8_plot_70 (by decide) ?_
                refine mp_top (bI (pB (md_plotOK f pl tl co (o + 1)))) (by rw [pB_t]; rfl; refine ⟨(pB_iff.mp cis).1, (pB_iff.mp cis).2.1, fun u hu => ?_⟩; by_cases huo : u < o; exact (pB_iff.mp cis).2.2 u huo; rw [show u = o by omega]; first | exact Or.inl (pB_iff.mp cp1) | exact Or.inr (pB_iff.mp cp2)) ?_
                refine lv_istore_n (lv' := [(2, .int (bI (pB (md_plotOK f pl tl co (o + 1))))), (0, .ref h), (1, .int (nI pl)), (3, .int (nI o))]) hx hb dX8_plot_74 rfl hl (by decide) rfl (fun ls hl => ?_)
                refine lv_iinc (v := nI (o + 1)) (lv' := [(3, .int (nI (o + 1))), (2, .int (bI (pB (md_plotOK f pl tl co (o + 1))))), (0, .ref h), (1, .int (nI pl))]) hx hb dX8_plot_75 hl (k := 3) rfl (nI_1 o) (by decide) rfl (fun ls hl => ?_)
                refine lv_goto (tgt := 42) hx hb dX8_plot_78 (by decide) ?_
                exact ih (o + 1) ls _ _ (by omega) (by omega) hM hS (lv_sub hl [2, 3, 1, 0] rfl)
              · have cp1 : (pB (rg_parts (md_rg f pl tl) (md_rg f o (co o)))) = false := bI_0.mp cp1
                refine lv_aload_n hx hb dX8_plot_60 rfl (lv_at hl 0 rfl) ?_
                refine lv_iload_n hx hb dX8_plot_61 rfl (lv_at hl 3 rfl) ?_
                refine lv_iload_n hx hb dX8_plot_62 rfl (lv_at hl 1 rfl) ?_
                have hco1 := hco o (by omega)
                have htl0 := c0tl
                refine mp_calli (va_runV (As := [.int (nI o), .int (nI pl)]) (rest := []) ⟨hx, hb, hml, hown, hts⟩ (c_X8_parts l X G A B h ad (upd n 2 (0 : Int32)) (va_up f 6 (upd (f 6) pl (nI tl))) o (co o) (by omega) (by omega) (by omega) (by show upd (f 6) pl (nI tl) o = _; rw [pk_un (by omega)]; exact (hco o (by omega)).1) pl tl (by omega) (by omega) (by omega) (by show upd (f 6) pl (nI tl) pl = _; exact pk_us)) (cwV 2 hts gX8_plot_X8_parts rfl rfl rfl (by decide +kernel) ⟨Nat.le_of_ble_eq_true rfl, Nat.le_of_ble_eq_true rfl⟩) (mp_preV hC hS hM (md_recv hC hM)) rfl rfl hl.1 rfl (lv_room (Nat.le_of_ble_eq_true rfl)) dX8_plot_63 ⟨Nat.le_of_ble_eq_true rfl, Nat.le_of_ble_eq_true rfl⟩) hS (fun H locs hM hS => ?_)
                refine lv_if_eq (tgt := 73) hx hb dX8_plot_66 (by decide) (fun cp2 => ?_) (fun cp2 => ?_)
                · have cp2 : (pB (rg_parts (md_rg f o (co o)) (md_rg f pl tl))) = false := bI_0.mp cp2
                  refine lv_iconst (v := (0 : Int32)) hx hb dX8_plot_73 (by decide) ?_
                  refine mp_top (bI (pB (md_plotOK f pl tl co (o + 1)))) (by rw [pB_f (fun q => (q.2.2 o (by omega)).elim (pB_not.mp cp1) (pB_not.mp cp2))]; rfl) ?_
                  refine lv_istore_n (lv' := [(2, .int (bI (pB (md_plotOK f pl tl co (o + 1))))), (0, .ref h), (1, .int (nI pl)), (3, .int (nI o))]) hx hb dX8_plot_74 rfl hl (by decide) rfl (fun ls hl => ?_)
                  refine lv_iinc (v := nI (o + 1)) (lv' := [(3, .int (nI (o + 1))), (2, .int (bI (pB (md_plotOK f pl tl co (o + 1))))), (0, .ref h), (1, .int (nI pl))]) hx hb dX8_plot_75 hl (k := 3) rfl (nI_1 o) (by decide) rfl (fun ls hl => ?_)
                  refine lv_goto (tgt := 42) hx hb dX8_plot_78 (by decide) ?_
                  exact ih (o + 1) ls _ _ (by omega) (by omega) hM hS (lv_sub hl [2, 3, 1, 0] rfl)
                · have cp2 : (pB (rg_parts (md_rg f o (co o)) (md_rg f pl tl))) = true := bI_1.mp cp2
                  refine lv_iconst (v := (1 : Int32)) hx hb dX8_plot_69 (by decide) ?_
                  refine lv_goto (tgt := 74) hx hb dX8_plot_70 (by decide) ?_
                  refine mp_top (bI (pB (md_plotOK f pl tl co (o + 1)))) (by rw [pB_t]; rfl; refine ⟨(pB_iff.mp cis).1, (pB_iff.mp cis).2.1, fun u hu => ?_⟩; by_cases huo : u < o; exact (pB_iff.mp cis).2.2 u huo; rw [show u = o by omega]; first | exact Or.inl (pB_iff.mp cp1) | exact Or.inr (pB_iff.mp cp2)) ?_
                  refine lv_istore_n (lv' := [(2, .int (bI (pB (md_plotOK f pl tl co (o + 1))))), (0, .ref h), (1, .int (nI pl)), (3, .int (nI o))]) hx hb dX8_plot_74 rfl hl (by decide) rfl (fun ls hl => ?_)
                  refine lv_iinc (v := nI (o + 1)) (lv' := [(3, .int (nI (o + 1))), (2, .int (bI (pB (md_plotOK f pl tl co (o + 1))))), (0, .ref h), (1, .int (nI pl))]) hx hb dX8_plot_75 hl (k := 3) rfl (nI_1 o) (by decide) rfl (fun ls hl => ?_)
                  refine lv_goto (tgt := 42) hx hb dX8_plot_78 (by decide) ?_
                  exact ih (o + 1) ls _ _ (by omega) (by omega) hM hS (lv_sub hl [2, 3, 1, 0] rfl)
      exact LP42 _ 0 ls _ _ (Nat.lt_succ_self _) (Nat.zero_le _) hM hS (lv_sub hl [3, 2, 1, 0] rfl)
abbrev rmX8_reaches : Room := { frames := 0, cells := 0, slots := 0, locals := 0 }
set_option maxHeartbeats 4000000 in
set_option maxRecDepth 100000 in
theorem c_X8_reaches (l : Launch) (X : mp_X) (G : mp_G) (A : Nat → Prop) (M : mp_M) (x y ax ay bx y2 : Int32) (most : Int64) (z : Int32) (less : Bool) (hz : z = bI less) : mp_Met l X G A yX8_reaches wsX8_reaches rmX8_reaches ([.int x, .int y, .int ax, .int ay, .int bx, .int y2, .long most, .int z] : List Value) M (fun v M1 => v = some (.int (bI (pB (rc_reach x y ax ay bx y2 most less)))) ∧ M1 = M) 0 0 := by
  refine mp_ofW (cc := cX8_reaches) (maxL := 29) (ret := (some .boolean)) (by decide) rfl (Nat.le_of_ble_eq_true rfl) ?_
  intro p e s m below meth c ls hx hb hr hts hown hlocks hnm hml hC hM hS hl
  have hl : lv_has ls 29 [(0, .int x), (1, .int y), (2, .int ax), (3, .int ay), (4, .int bx), (5, .int y2), (6, .long most), (8, .int z)] := hl
  have hown : s.vm.findClass RX8 = some m.cls := hown
  refine lv_iload hx hb dX8_reaches_0 (lv_at hl 4 rfl) ?_
  refine lv_iload_n hx hb dX8_reaches_2 rfl (lv_at hl 2 rfl) ?_
  refine lv_isub hx hb dX8_reaches_3 ?_
  refine lv_i2l hx hb dX8_reaches_4 rfl ?_
  refine lv_lstore (lv' := [(9, .long ((bx - ax).toInt64)), (0, .int x), (1, .int y), (2, .int ax), (3, .int ay), (4, .int bx), (5, .int y2), (6, .long most), (8, .int z)]) hx hb dX8_reaches_5 hl (by decide) rfl (fun ls hl => ?_)
  refine lv_iload hx hb dX8_reaches_7 (lv_at hl 6 rfl) ?_
  refine lv_iload_n hx hb dX8_reaches_9 rfl (lv_at hl 4 rfl) ?_
  refine lv_isub hx hb dX8_reaches_10 ?_
  refine lv_i2l hx hb dX8_reaches_11 rfl ?_
  refine lv_lstore (lv' := [(11, .long ((y2 - ay).toInt64)), (9, .long ((bx - ax).toInt64)), (0, .int x), (1, .int y), (2, .int ax), (3, .int ay), (4, .int bx), (5, .int y2), (6, .long most), (8, .int z)]) hx hb dX8_reaches_12 hl (by decide) rfl (fun ls hl => ?_)
  refine lv_iload_n hx hb dX8_reaches_14 rfl (lv_at hl 2 rfl) ?_
  refine lv_iload_n hx hb dX8_reaches_15 rfl (lv_at hl 4 rfl) ?_
  refine lv_isub hx hb dX8_reaches_16 ?_
  refine lv_i2l hx hb dX8_reaches_17 rfl ?_
  refine lv_lstore (lv' := [(13, .long ((x - ax).toInt64)), (11, .long ((y2 - ay).toInt64)), (9, .long ((bx - ax).toInt64)), (0, .int x), (1, .int y), (2, .int ax), (3, .int ay), (4, .int bx), (5, .int y2), (6, .long most), (8, .int z)]) hx hb dX8_reaches_18 hl (by decide) rfl (fun ls hl => ?_)
  refine lv_iload_n hx hb dX8_reaches_20 rfl (lv_at hl 4 rfl) ?_
  refine lv_iload_n hx hb dX8_reaches_21 rfl (lv_at hl 6 rfl) ?_
  refine lv_isub hx hb dX8_reaches_22 ?_
  refine lv_i2l hx hb dX8_reaches_23 rfl ?_
  refine lv_lstore (lv' := [(15, .long ((y - ay).toInt64)), (13, .long ((x - ax).toInt64)), (11, .long ((y2 - ay).toInt64)), (9, .long ((bx - ax).toInt64)), (0, .int x), (1, .int y), (2, .int ax), (3, .int ay), (4, .int bx), (5, .int y2), (6, .long most), (8, .int z)]) hx hb dX8_reaches_24 hl (by decide) rfl (fun ls hl => ?_)
  refine lv_lload hx hb dX8_reaches_26 (lv_at hl 3 rfl) ?_
  refine lv_lload hx hb dX8_reaches_28 (lv_at hl 1 rfl) ?_
  refine lv_lmul hx hb dX8_reaches_30 ?_
  refine lv_lload hx hb dX8_reaches_31 (lv_at hl 2 rfl) ?_
  refine lv_lload hx hb dX8_reaches_33 (lv_at hl 0 rfl) ?_
  refine lv_lmul hx hb dX8_reaches_35 ?_
  refine lv_ladd hx hb dX8_reaches_36 ?_
  refine lv_lstore (lv' := [(17, .long ((((bx - ax).toInt64) * ((x - ax).toInt64)) + (((y2 - ay).toInt64) * ((y - ay).toInt64)))), (15, .long ((y - ay).toInt64)), (13, .long ((x - ax).toInt64)), (11, .long ((y2 - ay).toInt64)), (9, .long ((bx - ax).toInt64)), (0, .int x), (1, .int y), (2, .int ax), (3, .int ay), (4, .int bx), (5, .int y2), (6, .long most), (8, .int z)]) hx hb dX8_reaches_37 hl (by decide) rfl (fun ls hl => ?_)
  refine lv_lload hx hb dX8_reaches_39 (lv_at hl 4 rfl) ?_
  refine lv_lload hx hb dX8_reaches_41 (lv_at hl 4 rfl) ?_
  refine lv_lmul hx hb dX8_reaches_43 ?_
  refine lv_lload hx hb dX8_reaches_44 (lv_at hl 3 rfl) ?_
  refine lv_lload hx hb dX8_reaches_46 (lv_at hl 3 rfl) ?_
  refine lv_lmul hx hb dX8_reaches_48 ?_
  refine lv_ladd hx hb dX8_reaches_49 ?_
  refine lv_lstore (lv' := [(19, .long ((((bx - ax).toInt64) * ((bx - ax).toInt64)) + (((y2 - ay).toInt64) * ((y2 - ay).toInt64)))), (17, .long ((((bx - ax).toInt64) * ((x - ax).toInt64)) + (((y2 - ay).toInt64) * ((y - ay).toInt64)))), (15, .long ((y - ay).toInt64)), (13, .long ((x - ax).toInt64)), (11, .long ((y2 - ay).toInt64)), (9, .long ((bx - ax).toInt64)), (0, .int x), (1, .int y), (2, .int ax), (3, .int ay), (4, .int bx), (5, .int y2), (6, .long most), (8, .int z)]) hx hb dX8_reaches_50 hl (by decide) rfl (fun ls hl => ?_)
  refine lv_lconst (v := (1 : Int64)) hx hb dX8_reaches_52 (by decide) ?_
  refine lv_lstore (lv' := [(23, .long (1 : Int64)), (19, .long ((((bx - ax).toInt64) * ((bx - ax).toInt64)) + (((y2 - ay).toInt64) * ((y2 - ay).toInt64)))), (17, .long ((((bx - ax).toInt64) * ((x - ax).toInt64)) + (((y2 - ay).toInt64) * ((y - ay).toInt64)))), (15, .long ((y - ay).toInt64)), (13, .long ((x - ax).toInt64)), (11, .long ((y2 - ay).toInt64)), (9, .long ((bx - ax).toInt64)), (0, .int x), (1, .int y), (2, .int ax), (3, .int ay), (4, .int bx), (5, .int y2), (6, .long most), (8, .int z)]) hx hb dX8_reaches_53 hl (by decide) rfl (fun ls hl => ?_)
  refine lv_lload hx hb dX8_reaches_55 (lv_at hl 2 rfl) ?_
  refine lv_lconst (v := (0 : Int64)) hx hb dX8_reaches_57 (by decide) ?_
  refine W.lcmp hx hb dX8_reaches_58 ?_
  refine lv_if_gt (tgt := 78) hx hb dX8_reaches_59 (by decide) (fun ca => ?_) (fun ca => ?_)
  · have ca := (lg_cmp_gt _ _).mp ca
    refine lv_lload hx hb dX8_reaches_78 (lv_at hl 2 rfl) ?_
    refine lv_lload hx hb dX8_reaches_80 (lv_at hl 1 rfl) ?_
    refine W.lcmp hx hb dX8_reaches_82 ?_
    refine lv_if_lt (tgt := 116) hx hb dX8_reaches_83 (by decide) (fun cb => ?_) (fun cb => ?_)
    · have cb := (lg_cmp_lt _ _).mp cb
      refine lv_lload hx hb dX8_reaches_116 (lv_at hl 6 rfl) ?_
      refine lv_lload hx hb dX8_reaches_118 (lv_at hl 3 rfl) ?_
      refine lv_lmul hx hb dX8_reaches_120 ?_
      refine lv_lload hx hb dX8_reaches_121 (lv_at hl 5 rfl) ?_
      refine lv_lload hx hb dX8_reaches_123 (lv_at hl 4 rfl) ?_
      refine lv_lmul hx hb dX8_reaches_125 ?_
      refine lv_lsub hx hb dX8_reaches_126 ?_
      refine lv_lstore (lv' := [(25, .long ((((bx - ax).toInt64) * ((y - ay).toInt64)) - (((y2 - ay).toInt64) * ((x - ax).toInt64)))), (23, .long (1 : Int64)), (19, .long ((((bx - ax).toInt64) * ((bx - ax).toInt64)) + (((y2 - ay).toInt64) * ((y2 - ay).toInt64)))), (17, .long ((((bx - ax).toInt64) * ((x - ax).toInt64)) + (((y2 - ay).toInt64) * ((y - ay).toInt64)))), (15, .long ((y - ay).toInt64)), (13, .long ((x - ax).toInt64)), (11, .long ((y2 - ay).toInt64)), (9, .long ((bx - ax).toInt64)), (0, .int x), (1, .int y), (2, .int ax), (3, .int ay), (4, .int bx), (5, .int y2), (6, .long most), (8, .int z)]) hx hb dX8_reaches_127 hl (by decide) rfl (fun ls hl => ?_)
      refine lv_lload hx hb dX8_reaches_129 (lv_at hl 0 rfl) ?_
      refine lv_lload hx hb dX8_reaches_131 (lv_at hl 0 rfl) ?_
      refine lv_lmul hx hb dX8_reaches_133 ?_
      refine lv_lstore (lv' := [(21, .long (((((bx - ax).toInt64) * ((y - ay).toInt64)) - (((y2 - ay).toInt64) * ((x - ax).toInt64))) * ((((bx - ax).toInt64) * ((y - ay).toInt64)) - (((y2 - ay).toInt64) * ((x - ax).toInt64))))), (25, .long ((((bx - ax).toInt64) * ((y - ay).toInt64)) - (((y2 - ay).toInt64) * ((x - ax).toInt64)))), (23, .long (1 : Int64)), (19, .long ((((bx - ax).toInt64) * ((bx - ax).toInt64)) + (((y2 - ay).toInt64) * ((y2 - ay).toInt64)))), (17, .long ((((bx - ax).toInt64) * ((x - ax).toInt64)) + (((y2 - ay).toInt64) * ((y - ay).toInt64)))), (15, .long ((y - ay).toInt64)), (13, .long ((x - ax).toInt64)), (11, .long ((y2 - ay).toInt64)), (9, .long ((bx - ax).toInt64)), (0, .int x), (1, .int y), (2, .int ax), (3, .int ay), (4, .int bx), (5, .int y2), (6, .long most), (8, .int z)]) hx hb dX8_reaches_134 hl (by decide) rfl (fun ls hl => ?_)
      refine lv_lload hx hb dX8_reaches_136 (lv_at hl 3 rfl) ?_
      refine lv_lstore (lv' := [(23, .long ((((bx - ax).toInt64) * ((bx - ax).toInt64)) + (((y2 - ay).toInt64) * ((y2 - ay).toInt64)))), (21, .long (((((bx - ax).toInt64) * ((y - ay).toInt64)) - (((y2 - ay).toInt64) * ((x - ax).toInt64))) * ((((bx - ax).toInt64) * ((y - ay).toInt64)) - (((y2 - ay).toInt64) * ((x - ax).toInt64))))), (25, .long ((((bx - ax).toInt64) * ((y - ay).toInt64)) - (((y2 - ay).toInt64) * ((x - ax).toInt64)))), (19, .long ((((bx - ax).toInt64) * ((bx - ax).toInt64)) + (((y2 - ay).toInt64) * ((y2 - ay).toInt64)))), (17, .long ((((bx - ax).toInt64) * ((x - ax).toInt64)) + (((y2 - ay).toInt64) * ((y - ay).toInt64)))), (15, .long ((y - ay).toInt64)), (13, .long ((x - ax).toInt64)), (11, .long ((y2 - ay).toInt64)), (9, .long ((bx - ax).toInt64)), (0, .int x), (1, .int y), (2, .int ax), (3, .int ay), (4, .int bx), (5, .int y2), (6, .long most), (8, .int z)]) hx hb dX8_reaches_138 hl (by decide) rfl (fun ls hl => ?_)
      refine lv_iload hx hb dX8_reaches_140 (lv_at hl 16 rfl) ?_
      refine lv_if_eq (tgt := 167) hx hb dX8_reaches_142 (by decide) (fun cz => ?_) (fun cz => ?_)
      · have cz := cz
        refine lv_lload hx hb dX8_reaches_167 (lv_at hl 1 rfl) ?_
        refine lv_lload hx hb dX8_reaches_169 (lv_at hl 15 rfl) ?_
        refine lv_lload hx hb dX8_reaches_171 (lv_at hl 15 rfl) ?_
        refine lv_lmul hx hb dX8_reaches_173 ?_
        refine lv_lload hx hb dX8_reaches_174 (lv_at hl 0 rfl) ?_
        refine lv_lmul hx hb dX8_reaches_176 ?_
        refine W.lcmp hx hb dX8_reaches_177 ?_
        refine lv_if_gt (tgt := 185) hx hb dX8_reaches_178 (by decide) (fun cl => ?_) (fun cl => ?_)
        · have cl := (lg_cmp_gt _ _).mp cl
          refine lv_iconst (v := (0 : Int32)) hx hb dX8_reaches_185 (by decide) ?_
          exact mp_zret hx hb hr hlocks (Nat.le_of_ble_eq_true rfl) (Nat.le_of_ble_eq_true rfl) hM hS dX8_reaches_186 (by first | rfl | exact bI_nar _) (have q : less = false := (by rw [hz] at cz; exact bI_0.mp cz); ⟨b0 (by rw [rc_reach]; simp only [q, if_true, Bool.false_eq_true, if_false, if_pos ca, if_pos cb]; first | exact l_nlt.mpr cl | exact l_nle.mpr cl | exact cl), rfl⟩)
        · have cl := fun q => cl ((lg_cmp_gt _ _).mpr q)
          refine lv_iconst (v := (1 : Int32)) hx hb dX8_reaches_181 (by decide) ?_
          refine lv_goto (tgt := 186) hx hb dX8_reaches_182 (by decide) ?_
          exact mp_zret hx hb hr hlocks (Nat.le_of_ble_eq_true rfl) (Nat.le_of_ble_eq_true rfl) hM hS dX8_reaches_186 (by first | rfl | exact bI_nar _) (have q : less = false := (by rw [hz] at cz; exact bI_0.mp cz); ⟨b1 (by rw [rc_reach]; simp only [q, if_true, Bool.false_eq_true, if_false, if_pos ca, if_pos cb]; first | exact l_nle.mp cl | exact l_nlt.mp cl | exact cl), rfl⟩)
      · have cz := cz
        refine lv_lload hx hb dX8_reaches_145 (lv_at hl 1 rfl) ?_
        refine lv_lload hx hb dX8_reaches_147 (lv_at hl 15 rfl) ?_
        refine lv_lload hx hb dX8_reaches_149 (lv_at hl 15 rfl) ?_
        refine lv_lmul hx hb dX8_reaches_151 ?_
        refine lv_lload hx hb dX8_reaches_152 (lv_at hl 0 rfl) ?_
        refine lv_lmul hx hb dX8_reaches_154 ?_
        refine W.lcmp hx hb dX8_reaches_155 ?_
        refine lv_if_ge (tgt := 163) hx hb dX8_reaches_156 (by decide) (fun cl => ?_) (fun cl => ?_)
        · have cl := (lg_cmp_ge _ _).mp cl
          refine lv_iconst (v := (0 : Int32)) hx hb dX8_reaches_163 (by decide) ?_
          refine lv_goto (tgt := 186) hx hb dX8_reaches_164 (by decide) ?_
          exact mp_zret hx hb hr hlocks (Nat.le_of_ble_eq_true rfl) (Nat.le_of_ble_eq_true rfl) hM hS dX8_reaches_186 (by first | rfl | exact bI_nar _) (have q : less = true := (by rw [hz] at cz; exact bI_1.mp cz); ⟨b0 (by rw [rc_reach]; simp only [q, if_true, Bool.false_eq_true, if_false, if_pos ca, if_pos cb]; first | exact l_nlt.mpr cl | exact l_nle.mpr cl | exact cl), rfl⟩)
        · have cl := fun q => cl ((lg_cmp_ge _ _).mpr q)
          refine lv_iconst (v := (1 : Int32)) hx hb dX8_reaches_159 (by decide) ?_
          refine lv_goto (tgt := 186) hx hb dX8_reaches_160 (by decide) ?_
          exact mp_zret hx hb hr hlocks (Nat.le_of_ble_eq_true rfl) (Nat.le_of_ble_eq_true rfl) hM hS dX8_reaches_186 (by first | rfl | exact bI_nar _) (have q : less = true := (by rw [hz] at cz; exact bI_1.mp cz); ⟨b1 (by rw [rc_reach]; simp only [q, if_true, Bool.false_eq_true, if_false, if_pos ca, if_pos cb]; first | exact l_nle.mp cl | exact l_nlt.mp cl | exact cl), rfl⟩)
    · have cb := fun q => cb ((lg_cmp_lt _ _).mpr q)
      refine lv_iload_n hx hb dX8_reaches_86 rfl (lv_at hl 7 rfl) ?_
      refine lv_iload hx hb dX8_reaches_87 (lv_at hl 11 rfl) ?_
      refine lv_isub hx hb dX8_reaches_89 ?_
      refine lv_i2l hx hb dX8_reaches_90 rfl ?_
      refine lv_lstore (lv' := [(25, .long ((x - bx).toInt64)), (23, .long (1 : Int64)), (19, .long ((((bx - ax).toInt64) * ((bx - ax).toInt64)) + (((y2 - ay).toInt64) * ((y2 - ay).toInt64)))), (17, .long ((((bx - ax).toInt64) * ((x - ax).toInt64)) + (((y2 - ay).toInt64) * ((y - ay).toInt64)))), (15, .long ((y - ay).toInt64)), (13, .long ((x - ax).toInt64)), (11, .long ((y2 - ay).toInt64)), (9, .long ((bx - ax).toInt64)), (0, .int x), (1, .int y), (2, .int ax), (3, .int ay), (4, .int bx), (5, .int y2), (6, .long most), (8, .int z)]) hx hb dX8_reaches_91 hl (by decide) rfl (fun ls hl => ?_)
      refine lv_iload_n hx hb dX8_reaches_93 rfl (lv_at hl 9 rfl) ?_
      refine lv_iload hx hb dX8_reaches_94 (lv_at hl 13 rfl) ?_
      refine lv_isub hx hb dX8_reaches_96 ?_
      refine lv_i2l hx hb dX8_reaches_97 rfl ?_
      refine lv_lstore (lv' := [(27, .long ((y - y2).toInt64)), (25, .long ((x - bx).toInt64)), (23, .long (1 : Int64)), (19, .long ((((bx - ax).toInt64) * ((bx - ax).toInt64)) + (((y2 - ay).toInt64) * ((y2 - ay).toInt64)))), (17, .long ((((bx - ax).toInt64) * ((x - ax).toInt64)) + (((y2 - ay).toInt64) * ((y - ay).toInt64)))), (15, .long ((y - ay).toInt64)), (13, .long ((x - ax).toInt64)), (11, .long ((y2 - ay).toInt64)), (9, .long ((bx - ax).toInt64)), (0, .int x), (1, .int y), (2, .int ax), (3, .int ay), (4, .int bx), (5, .int y2), (6, .long most), (8, .int z)]) hx hb dX8_reaches_98 hl (by decide) rfl (fun ls hl => ?_)
      refine lv_lload hx hb dX8_reaches_100 (lv_at hl 1 rfl) ?_
      refine lv_lload hx hb dX8_reaches_102 (lv_at hl 1 rfl) ?_
      refine lv_lmul hx hb dX8_reaches_104 ?_
      refine lv_lload hx hb dX8_reaches_105 (lv_at hl 0 rfl) ?_
      refine lv_lload hx hb dX8_reaches_107 (lv_at hl 0 rfl) ?_
      refine lv_lmul hx hb dX8_reaches_109 ?_
      refine lv_ladd hx hb dX8_reaches_110 ?_
      refine lv_lstore (lv' := [(21, .long ((((x - bx).toInt64) * ((x - bx).toInt64)) + (((y - y2).toInt64) * ((y - y2).toInt64)))), (27, .long ((y - y2).toInt64)), (25, .long ((x - bx).toInt64)), (23, .long (1 : Int64)), (19, .long ((((bx - ax).toInt64) * ((bx - ax).toInt64)) + (((y2 - ay).toInt64) * ((y2 - ay).toInt64)))), (17, .long ((((bx - ax).toInt64) * ((x - ax).toInt64)) + (((y2 - ay).toInt64) * ((y - ay).toInt64)))), (15, .long ((y - ay).toInt64)), (13, .long ((x - ax).toInt64)), (11, .long ((y2 - ay).toInt64)), (9, .long ((bx - ax).toInt64)), (0, .int x), (1, .int y), (2, .int ax), (3, .int ay), (4, .int bx), (5, .int y2), (6, .long most), (8, .int z)]) hx hb dX8_reaches_111 hl (by decide) rfl (fun ls hl => ?_)
      refine lv_goto (tgt := 140) hx hb dX8_reaches_113 (by decide) ?_
      refine lv_iload hx hb dX8_reaches_140 (lv_at hl 17 rfl) ?_
      refine lv_if_eq (tgt := 167) hx hb dX8_reaches_142 (by decide) (fun cz => ?_) (fun cz => ?_)
      · have cz := cz
        refine lv_lload hx hb dX8_reaches_167 (lv_at hl 0 rfl) ?_
        refine lv_lload hx hb dX8_reaches_169 (lv_at hl 16 rfl) ?_
        refine lv_lload hx hb dX8_reaches_171 (lv_at hl 16 rfl) ?_
        refine lv_lmul hx hb dX8_reaches_173 ?_
        refine lv_lload hx hb dX8_reaches_174 (lv_at hl 3 rfl) ?_
        refine lv_lmul hx hb dX8_reaches_176 ?_
        refine W.lcmp hx hb dX8_reaches_177 ?_
        refine lv_if_gt (tgt := 185) hx hb dX8_reaches_178 (by decide) (fun cl => ?_) (fun cl => ?_)
        · have cl := (lg_cmp_gt _ _).mp cl
          refine lv_iconst (v := (0 : Int32)) hx hb dX8_reaches_185 (by decide) ?_
          exact mp_zret hx hb hr hlocks (Nat.le_of_ble_eq_true rfl) (Nat.le_of_ble_eq_true rfl) hM hS dX8_reaches_186 (by first | rfl | exact bI_nar _) (have q : less = false := (by rw [hz] at cz; exact bI_0.mp cz); ⟨b0 (by rw [rc_reach]; simp only [q, if_true, Bool.false_eq_true, if_false, if_pos ca, if_neg cb]; first | exact l_nlt.mpr cl | exact l_nle.mpr cl | exact cl), rfl⟩)
        · have cl := fun q => cl ((lg_cmp_gt _ _).mpr q)
          refine lv_iconst (v := (1 : Int32)) hx hb dX8_reaches_181 (by decide) ?_
          refine lv_goto (tgt := 186) hx hb dX8_reaches_182 (by decide) ?_
          exact mp_zret hx hb hr hlocks (Nat.le_of_ble_eq_true rfl) (Nat.le_of_ble_eq_true rfl) hM hS dX8_reaches_186 (by first | rfl | exact bI_nar _) (have q : less = false := (by rw [hz] at cz; exact bI_0.mp cz); ⟨b1 (by rw [rc_reach]; simp only [q, if_true, Bool.false_eq_true, if_false, if_pos ca, if_neg cb]; first | exact l_nle.mp cl | exact l_nlt.mp cl | exact cl), rfl⟩)
      · have cz := cz
        refine lv_lload hx hb dX8_reaches_145 (lv_at hl 0 rfl) ?_
        refine lv_lload hx hb dX8_reaches_147 (lv_at hl 16 rfl) ?_
        refine lv_lload hx hb dX8_reaches_149 (lv_at hl 16 rfl) ?_
        refine lv_lmul hx hb dX8_reaches_151 ?_
        refine lv_lload hx hb dX8_reaches_152 (lv_at hl 3 rfl) ?_
        refine lv_lmul hx hb dX8_reaches_154 ?_
        refine W.lcmp hx hb dX8_reaches_155 ?_
        refine lv_if_ge (tgt := 163) hx hb dX8_reaches_156 (by decide) (fun cl => ?_) (fun cl => ?_)
        · have cl := (lg_cmp_ge _ _).mp cl
          refine lv_iconst (v := (0 : Int32)) hx hb dX8_reaches_163 (by decide) ?_
          refine lv_goto (tgt := 186) hx hb dX8_reaches_164 (by decide) ?_
          exact mp_zret hx hb hr hlocks (Nat.le_of_ble_eq_true rfl) (Nat.le_of_ble_eq_true rfl) hM hS dX8_reaches_186 (by first | rfl | exact bI_nar _) (have q : less = true := (by rw [hz] at cz; exact bI_1.mp cz); ⟨b0 (by rw [rc_reach]; simp only [q, if_true, Bool.false_eq_true, if_false, if_pos ca, if_neg cb]; first | exact l_nlt.mpr cl | exact l_nle.mpr cl | exact cl), rfl⟩)
        · have cl := fun q => cl ((lg_cmp_ge _ _).mpr q)
          refine lv_iconst (v := (1 : Int32)) hx hb dX8_reaches_159 (by decide) ?_
          refine lv_goto (tgt := 186) hx hb dX8_reaches_160 (by decide) ?_
          exact mp_zret hx hb hr hlocks (Nat.le_of_ble_eq_true rfl) (Nat.le_of_ble_eq_true rfl) hM hS dX8_reaches_186 (by first | rfl | exact bI_nar _) (have q : less = true := (by rw [hz] at cz; exact bI_1.mp cz); ⟨b1 (by rw [rc_reach]; simp only [q, if_true, Bool.false_eq_true, if_false, if_pos ca, if_neg cb]; first | exact l_nle.mp cl | exact l_nlt.mp cl | exact cl), rfl⟩)
  · have ca := fun q => ca ((lg_cmp_gt _ _).mpr q)
    refine lv_lload hx hb dX8_reaches_62 (lv_at hl 4 rfl) ?_
    refine lv_lload hx hb dX8_reaches_64 (lv_at hl 4 rfl) ?_
    refine lv_lmul hx hb dX8_reaches_66 ?_
    refine lv_lload hx hb dX8_reaches_67 (lv_at hl 3 rfl) ?_
    refine lv_lload hx hb dX8_reaches_69 (lv_at hl 3 rfl) ?_
    refine lv_lmul hx hb dX8_reaches_71 ?_
    refine lv_ladd hx hb dX8_reaches_72 ?_
    refine lv_lstore (lv' := [(21, .long ((((x - ax).toInt64) * ((x - ax).toInt64)) + (((y - ay).toInt64) * ((y - ay).toInt64)))), (23, .long (1 : Int64)), (19, .long ((((bx - ax).toInt64) * ((bx - ax).toInt64)) + (((y2 - ay).toInt64) * ((y2 - ay).toInt64)))), (17, .long ((((bx - ax).toInt64) * ((x - ax).toInt64)) + (((y2 - ay).toInt64) * ((y - ay).toInt64)))), (15, .long ((y - ay).toInt64)), (13, .long ((x - ax).toInt64)), (11, .long ((y2 - ay).toInt64)), (9, .long ((bx - ax).toInt64)), (0, .int x), (1, .int y), (2, .int ax), (3, .int ay), (4, .int bx), (5, .int y2), (6, .long most), (8, .int z)]) hx hb dX8_reaches_73 hl (by decide) rfl (fun ls hl => ?_)
    refine lv_goto (tgt := 140) hx hb dX8_reaches_75 (by decide) ?_
    refine lv_iload hx hb dX8_reaches_140 (lv_at hl 15 rfl) ?_
    refine lv_if_eq (tgt := 167) hx hb dX8_reaches_142 (by decide) (fun cz => ?_) (fun cz => ?_)
    · have cz := cz
      refine lv_lload hx hb dX8_reaches_167 (lv_at hl 0 rfl) ?_
      refine lv_lload hx hb dX8_reaches_169 (lv_at hl 14 rfl) ?_
      refine lv_lload hx hb dX8_reaches_171 (lv_at hl 14 rfl) ?_
      refine lv_lmul hx hb dX8_reaches_173 ?_
      refine lv_lload hx hb dX8_reaches_174 (lv_at hl 1 rfl) ?_
      refine lv_lmul hx hb dX8_reaches_176 ?_
      refine W.lcmp hx hb dX8_reaches_177 ?_
      refine lv_if_gt (tgt := 185) hx hb dX8_reaches_178 (by decide) (fun cl => ?_) (fun cl => ?_)
      · have cl := (lg_cmp_gt _ _).mp cl
        refine lv_iconst (v := (0 : Int32)) hx hb dX8_reaches_185 (by decide) ?_
        exact mp_zret hx hb hr hlocks (Nat.le_of_ble_eq_true rfl) (Nat.le_of_ble_eq_true rfl) hM hS dX8_reaches_186 (by first | rfl | exact bI_nar _) (have q : less = false := (by rw [hz] at cz; exact bI_0.mp cz); ⟨b0 (by rw [rc_reach]; simp only [q, if_true, Bool.false_eq_true, if_false, if_neg ca]; first | exact l_nlt.mpr cl | exact l_nle.mpr cl | exact cl), rfl⟩)
      · have cl := fun q => cl ((lg_cmp_gt _ _).mpr q)
        refine lv_iconst (v := (1 : Int32)) hx hb dX8_reaches_181 (by decide) ?_
        refine lv_goto (tgt := 186) hx hb dX8_reaches_182 (by decide) ?_
        exact mp_zret hx hb hr hlocks (Nat.le_of_ble_eq_true rfl) (Nat.le_of_ble_eq_true rfl) hM hS dX8_reaches_186 (by first | rfl | exact bI_nar _) (have q : less = false := (by rw [hz] at cz; exact bI_0.mp cz); ⟨b1 (by rw [rc_reach]; simp only [q, if_true, Bool.false_eq_true, if_false, if_neg ca]; first | exact l_nle.mp cl | exact l_nlt.mp cl | exact cl), rfl⟩)
    · have cz := cz
      refine lv_lload hx hb dX8_reaches_145 (lv_at hl 0 rfl) ?_
      refine lv_lload hx hb dX8_reaches_147 (lv_at hl 14 rfl) ?_
      refine lv_lload hx hb dX8_reaches_149 (lv_at hl 14 rfl) ?_
      refine lv_lmul hx hb dX8_reaches_151 ?_
      refine lv_lload hx hb dX8_reaches_152 (lv_at hl 1 rfl) ?_
      refine lv_lmul hx hb dX8_reaches_154 ?_
      refine W.lcmp hx hb dX8_reaches_155 ?_
      refine lv_if_ge (tgt := 163) hx hb dX8_reaches_156 (by decide) (fun cl => ?_) (fun cl => ?_)
      · have cl := (lg_cmp_ge _ _).mp cl
        refine lv_iconst (v := (0 : Int32)) hx hb dX8_reaches_163 (by decide) ?_
        refine lv_goto (tgt := 186) hx hb dX8_reaches_164 (by decide) ?_
        exact mp_zret hx hb hr hlocks (Nat.le_of_ble_eq_true rfl) (Nat.le_of_ble_eq_true rfl) hM hS dX8_reaches_186 (by first | rfl | exact bI_nar _) (have q : less = true := (by rw [hz] at cz; exact bI_1.mp cz); ⟨b0 (by rw [rc_reach]; simp only [q, if_true, Bool.false_eq_true, if_false, if_neg ca]; first | exact l_nlt.mpr cl | exact l_nle.mpr cl | exact cl), rfl⟩)
      · have cl := fun q => cl ((lg_cmp_ge _ _).mpr q)
        refine lv_iconst (v := (1 : Int32)) hx hb dX8_reaches_159 (by decide) ?_
        refine lv_goto (tgt := 186) hx hb dX8_reaches_160 (by decide) ?_
        exact mp_zret hx hb hr hlocks (Nat.le_of_ble_eq_true rfl) (Nat.le_of_ble_eq_true rfl) hM hS dX8_reaches_186 (by first | rfl | exact bI_nar _) (have q : less = true := (by rw [hz] at cz; exact bI_1.mp cz); ⟨b1 (by rw [rc_reach]; simp only [q, if_true, Bool.false_eq_true, if_false, if_neg ca]; first | exact l_nle.mp cl | exact l_nlt.mp cl | exact cl), rfl⟩)
abbrev rmX8_cornersReach : Room := { frames := 1, cells := 0, slots := 0, locals := 48 }
set_option maxHeartbeats 4000000 in
set_option maxRecDepth 100000 in
theorem c_X8_cornersReach (l : Launch) (X : mp_X) (G : mp_G) (A : Nat → Prop) (B : mp_M) (h : Nat) (ad : Nat → Nat) (n : Nat → Int32) (f : Nat → Nat → Int32) (a ca : Nat) (ha9 : a < 13) (hca0 : 0 < ca) (hca8 : ca ≤ 8) (hca : f 6 a = nI ca) (b cb : Nat) (hb9 : b < 13) (hcb0 : 0 < cb) (hcb8 : cb ≤ 8) (hcb : f 6 b = nI cb) (d : Int32) : mp_Met l X G A yX8_cornersReach wsX8_cornersReach rmX8_cornersReach ([.ref h, .int (nI a), .int (nI b), .int d] : List Value) (md_M G B h ad n f) (fun v M1 => v = some (.int (bI (pB (rg_cor (md_rg f a ca) (md_rg f b cb) d.toInt64)))) ∧ M1 = md_M G B h ad n f) 0 0 := by
  refine mp_ofW (cc := cX8_cornersReach) (maxL := 8) (ret := (some .boolean)) (by decide) rfl (Nat.le_of_ble_eq_true rfl) ?_
  intro p e s m below meth c ls hx hb hr hts hown hlocks hnm hml hC hM hS hl
  have hl : lv_has ls 8 [(0, .ref h), (1, .int (nI a)), (2, .int (nI b)), (3, .int d)] := hl
  have hown : s.vm.findClass RX8 = some m.cls := hown
  have fl_7 := hts (.fieldLink RX8 7 "PlanningBenchModel" "corners" "[I") (List.mem_of_getElem? (i := 1) rfl)
  have hin_wsX80 : ∀ w ∈ wsX80, w ∈ wsX8_cornersReach := fun _ h => List.mem_cons_of_mem _ (List.mem_append_right _ h)
  have fl_13 := hts (.fieldLink RX8 13 "PlanningBenchModel" "xs" "[I") (List.mem_of_getElem? (i := 2) rfl)
  have fl_16 := hts (.fieldLink RX8 16 "PlanningBenchModel" "ys" "[I") (List.mem_of_getElem? (i := 3) rfl)
  refine lv_iconst (v := (0 : Int32)) hx hb dX8_cornersReach_0 (by decide) ?_
  refine lv_istore (lv' := [(4, .int (0 : Int32)), (0, .ref h), (1, .int (nI a)), (2, .int (nI b)), (3, .int d)]) hx hb dX8_cornersReach_1 hl (by decide) rfl (fun ls hl => ?_)
  have LP3 : ∀ (kk : Nat) (k : Nat) (ls : Array Slot) (H : Heap) (locs : List Loc), ca - k < kk → k ≤ ca → (∀ u, u < k → ¬ ∃ j, j < cb ∧ rg_reach (md_rg f b cb) j (f 7 (8 * a + u)) (f 8 (8 * a + u)) d.toInt64 false) → mp_P G.1 A (md_M G B h ad n f) H → va_S A s.heap H locs → lv_has ls 8 [(0, .ref h), (1, .int (nI a)), (2, .int (nI b)), (3, .int d), (4, .int (nI k))] → W p l e rmX8_cornersReach s m ([.ref h, .int (nI a), .int (nI b), .int d] : List Value).toArray below meth c H locs 0 0 (MQ below (mp_Q G.1 A (fun v M1 => v = some (.int (bI (pB (rg_cor (md_rg f a ca) (md_rg f b cb) d.toInt64)))) ∧ M1 = md_M G B h ad n f)) ([.ref h, .int (nI a), .int (nI b), .int d] : List Value).toArray s 0 0 A) (F0 m 3 ls []) := by
    intro kk
    induction kk with
    | zero => intro k ls H locs hk; exact absurd hk (Nat.not_lt_zero _)
    | succ kk ih =>
      intro k ls H locs hk hk9 hinv hM hS hl
      refine lv_iload hx hb dX8_cornersReach_3 (lv_at hl 4 rfl) ?_
      refine lv_aload_n hx hb dX8_cornersReach_5 rfl (lv_at hl 0 rfl) ?_
      refine md_getr hx hb hts hin_wsX80 hown hC hM 6 (by decide) rfl fl_7 dX8_cornersReach_6 ?_
      refine lv_iload_n hx hb dX8_cornersReach_9 rfl (lv_at hl 1 rfl) ?_
      refine md_iald hx hb hC hM 6 rfl (j := a) (by omega) (by decide) dX8_cornersReach_10 ?_
      refine mp_top (nI ca) hca ?_
      refine lv_icmp_ge (tgt := 130) hx hb dX8_cornersReach_11 (by decide) (fun hlt => ?_) (fun hlt => ?_)
      · have hlt := nn_le (a := ca) (b := k) (by omega) (by omega) hlt
        refine lv_iconst (v := (0 : Int32)) hx hb dX8_cornersReach_130 (by decide) ?_
        exact mp_zret hx hb hr hlocks (Nat.le_of_ble_eq_true rfl) (Nat.le_of_ble_eq_true rfl) hM hS dX8_cornersReach_131 (by first | rfl | exact bI_nar _) (⟨b0 (fun ⟨u, hu, j, hj, q⟩ => hinv u (by have hu : u < ca := hu; omega) ⟨j, hj, q⟩), rfl⟩)
      · have hlt := nn_nle (a := ca) (b := k) (by omega) (by omega) hlt
        refine lv_iconst (v := (0 : Int32)) hx hb dX8_cornersReach_14 (by decide) ?_
        refine lv_istore (lv' := [(5, .int (0 : Int32)), (0, .ref h), (1, .int (nI a)), (2, .int (nI b)), (3, .int d), (4, .int (nI k))]) hx hb dX8_cornersReach_15 hl (by decide) rfl (fun ls hl => ?_)
        have LP17 : ∀ (kk : Nat) (i : Nat) (ls : Array Slot) (H : Heap) (locs : List Loc), cb - i < kk → i ≤ cb → (∀ j, j < i → ¬ rg_reach (md_rg f b cb) j (f 7 (8 * a + k)) (f 8 (8 * a + k)) d.toInt64 false) → mp_P G.1 A (md_M G B h ad n f) H → va_S A s.heap H locs → lv_has ls 8 [(0, .ref h), (1, .int (nI a)), (2, .int (nI b)), (3, .int d), (4, .int (nI k)), (5, .int (nI i))] → W p l e rmX8_cornersReach s m ([.ref h, .int (nI a), .int (nI b), .int d] : List Value).toArray below meth c H locs 0 0 (MQ below (mp_Q G.1 A (fun v M1 => v = some (.int (bI (pB (rg_cor (md_rg f a ca) (md_rg f b cb) d.toInt64)))) ∧ M1 = md_M G B h ad n f)) ([.ref h, .int (nI a), .int (nI b), .int d] : List Value).toArray s 0 0 A) (F0 m 17 ls []) := by
          intro kk
          induction kk with
          | zero => intro i ls H locs hk; exact absurd hk (Nat.not_lt_zero _)
          | succ kk ih2 =>
            intro i ls H locs hk hi9 hinv2 hM hS hl
            have hmod : (i + 1) % cb < cb := Nat.mod_lt _ (by omega)
            refine lv_iload hx hb dX8_cornersReach_17 (lv_at hl 5 rfl) ?_
            refine lv_aload_n hx hb dX8_cornersReach_19 rfl (lv_at hl 0 rfl) ?_
            refine md_getr hx hb hts hin_wsX80 hown hC hM 6 (by decide) rfl fl_7 dX8_cornersReach_20 ?_
            refine lv_iload_n hx hb dX8_cornersReach_23 rfl (lv_at hl 2 rfl) ?_
            refine md_iald hx hb hC hM 6 rfl (j := b) (by omega) (by decide) dX8_cornersReach_24 ?_
            refine mp_top (nI cb) hcb ?_
            refine lv_icmp_ge (tgt := 124) hx hb dX8_cornersReach_25 (by decide) (fun hlt2 => ?_) (fun hlt2 => ?_)
            · have hlt2 := nn_le (a := cb) (b := i) (by omega) (by omega) hlt2
              refine lv_iinc (v := nI (k + 1)) (lv' := [(4, .int (nI (k + 1))), (0, .ref h), (1, .int (nI a)), (2, .int (nI b)), (3, .int d), (5, .int (nI i))]) hx hb dX8_cornersReach_124 hl (k := 4) rfl (nI_1 k) (by decide) rfl (fun ls hl => ?_)
              refine lv_goto (tgt := 3) hx hb dX8_cornersReach_127 (by decide) ?_
              exact ih (k + 1) ls _ _ (by omega) (by omega) (fun u hu => by
                by_cases huk : u < k
                · exact hinv u huk
                · rw [show u = k by omega]; exact fun ⟨j, hj, q⟩ => hinv2 j (by omega) q) hM hS (lv_sub hl [1, 2, 3, 4, 0] rfl)
            · have hlt2 := nn_nle (a := cb) (b := i) (by omega) (by omega) hlt2
              refine lv_bipush (v := (8 : Int32)) hx hb dX8_cornersReach_28 (by decide) ?_
              refine lv_iload_n hx hb dX8_cornersReach_30 rfl (lv_at hl 2 rfl) ?_
              refine lv_imul hx hb dX8_cornersReach_31 ?_
              refine mp_top (nI (8 * b)) (pk_mul 8 b) ?_
              refine lv_iload hx hb dX8_cornersReach_32 (lv_at hl 5 rfl) ?_
              refine lv_iadd hx hb dX8_cornersReach_34 ?_
              refine mp_top (nI ((8 * b) + i)) (nI_add (8 * b) i) ?_
              refine lv_istore (lv' := [(6, .int (nI ((8 * b) + i))), (0, .ref h), (1, .int (nI a)), (2, .int (nI b)), (3, .int d), (4, .int (nI k)), (5, .int (nI i))]) hx hb dX8_cornersReach_35 hl (by decide) rfl (fun ls hl => ?_)
              refine lv_bipush (v := (8 : Int32)) hx hb dX8_cornersReach_37 (by decide) ?_
              refine lv_iload_n hx hb dX8_cornersReach_39 rfl (lv_at hl 3 rfl) ?_
              refine lv_imul hx hb dX8_cornersReach_40 ?_
              refine mp_top (nI (8 * b)) (pk_mul 8 b) ?_
              refine lv_iload hx hb dX8_cornersReach_41 (lv_at hl 6 rfl) ?_
              refine lv_iconst (v := (1 : Int32)) hx hb dX8_cornersReach_43 (by decide) ?_
              refine lv_iadd hx hb dX8_cornersReach_44 ?_
              refine mp_top (nI (i + 1)) (nI_add i 1) ?_
              refine lv_aload_n hx hb dX8_cornersReach_45 rfl (lv_at hl 1 rfl) ?_
              refine md_getr hx hb hts hin_wsX80 hown hC hM 6 (by decide) rfl fl_7 dX8_cornersReach_46 ?_
              refine lv_iload_n hx hb dX8_cornersReach_49 rfl (lv_at hl 3 rfl) ?_
              refine md_iald hx hb hC hM 6 rfl (j := b) (by omega) (by decide) dX8_cornersReach_50 ?_
              refine mp_top (nI cb) hcb ?_
              refine lv_irem hx hb dX8_cornersReach_51 (nI_ne0 (by omega) (by omega)) ?_
              refine mp_top (nI ((i + 1) % cb)) (pk_rem (by omega) (by omega) (by omega)) ?_
              refine lv_iadd hx hb dX8_cornersReach_52 ?_
              refine mp_top (nI ((8 * b) + ((i + 1) % cb))) (nI_add (8 * b) ((i + 1) % cb)) ?_
              refine lv_istore (lv' := [(7, .int (nI ((8 * b) + ((i + 1) % cb)))), (6, .int (nI ((8 * b) + i))), (0, .ref h), (1, .int (nI a)), (2, .int (nI b)), (3, .int d), (4, .int (nI k)), (5, .int (nI i))]) hx hb dX8_cornersReach_53 hl (by decide) rfl (fun ls hl => ?_)
              refine lv_aload_n hx hb dX8_cornersReach_55 rfl (lv_at hl 2 rfl) ?_
              refine md_getr hx hb hts hin_wsX80 hown hC hM 7 (by decide) rfl fl_13 dX8_cornersReach_56 ?_
              refine lv_bipush (v := (8 : Int32)) hx hb dX8_cornersReach_59 (by decide) ?_
              refine lv_iload_n hx hb dX8_cornersReach_61 rfl (lv_at hl 3 rfl) ?_
              refine lv_imul hx hb dX8_cornersReach_62 ?_
              refine mp_top (nI (8 * a)) (pk_mul 8 a) ?_
              refine lv_iload hx hb dX8_cornersReach_63 (lv_at hl 6 rfl) ?_
              refine lv_iadd hx hb dX8_cornersReach_65 ?_
              refine mp_top (nI ((8 * a) + k)) (nI_add (8 * a) k) ?_
              refine md_iald hx hb hC hM 7 rfl (j := (8 * a) + k) (by omega) (by decide) dX8_cornersReach_66 ?_
              refine lv_aload_n hx hb dX8_cornersReach_67 rfl (lv_at hl 2 rfl) ?_
              refine md_getr hx hb hts hin_wsX80 hown hC hM 8 (by decide) rfl fl_16 dX8_cornersReach_68 ?_
              refine lv_bipush (v := (8 : Int32)) hx hb dX8_cornersReach_71 (by decide) ?_
              refine lv_iload_n hx hb dX8_cornersReach_73 rfl (lv_at hl 3 rfl) ?_
              refine lv_imul hx hb dX8_cornersReach_74 ?_
              refine mp_top (nI (8 * a)) (pk_mul 8 a) ?_
              refine lv_iload hx hb dX8_cornersReach_75 (lv_at hl 6 rfl) ?_
              refine lv_iadd hx hb dX8_cornersReach_77 ?_
              refine mp_top (nI ((8 * a) + k)) (nI_add (8 * a) k) ?_
              refine md_iald hx hb hC hM 8 rfl (j := (8 * a) + k) (by omega) (by decide) dX8_cornersReach_78 ?_
              refine lv_aload_n hx hb dX8_cornersReach_79 rfl (lv_at hl 2 rfl) ?_
              refine md_getr hx hb hts hin_wsX80 hown hC hM 7 (by decide) rfl fl_13 dX8_cornersReach_80 ?_
              refine lv_iload hx hb dX8_cornersReach_83 (lv_at hl 1 rfl) ?_
              refine md_iald hx hb hC hM 7 rfl (j := (8 * b) + i) (by omega) (by decide) dX8_cornersReach_85 ?_
              refine lv_aload_n hx hb dX8_cornersReach_86 rfl (lv_at hl 2 rfl) ?_
              refine md_getr hx hb hts hin_wsX80 hown hC hM 8 (by decide) rfl fl_16 dX8_cornersReach_87 ?_
              refine lv_iload hx hb dX8_cornersReach_90 (lv_at hl 1 rfl) ?_
              refine md_iald hx hb hC hM 8 rfl (j := (8 * b) + i) (by omega) (by decide) dX8_cornersReach_92 ?_
              refine lv_aload_n hx hb dX8_cornersReach_93 rfl (lv_at hl 2 rfl) ?_
              refine md_getr hx hb hts hin_wsX80 hown hC hM 7 (by decide) rfl fl_13 dX8_cornersReach_94 ?_
              refine lv_iload hx hb dX8_cornersReach_97 (lv_at hl 0 rfl) ?_
              refine md_iald hx hb hC hM 7 rfl (j := (8 * b) + ((i + 1) % cb)) (by omega) (by decide) dX8_cornersReach_99 ?_
              refine lv_aload_n hx hb dX8_cornersReach_100 rfl (lv_at hl 2 rfl) ?_
              refine md_getr hx hb hts hin_wsX80 hown hC hM 8 (by decide) rfl fl_16 dX8_cornersReach_101 ?_
              refine lv_iload hx hb dX8_cornersReach_104 (lv_at hl 0 rfl) ?_
              refine md_iald hx hb hC hM 8 rfl (j := (8 * b) + ((i + 1) % cb)) (by omega) (by decide) dX8_cornersReach_106 ?_
              refine lv_iload_n hx hb dX8_cornersReach_107 rfl (lv_at hl 5 rfl) ?_
              refine lv_i2l hx hb dX8_cornersReach_108 rfl ?_
              refine lv_iconst (v := (0 : Int32)) hx hb dX8_cornersReach_109 (by decide) ?_
              refine mp_calli (va_runS (As := [.int (f 7 ((8 * a) + k)), .int (f 8 ((8 * a) + k)), .int (f 7 ((8 * b) + i)), .int (f 8 ((8 * b) + i)), .int (f 7 ((8 * b) + ((i + 1) % cb))), .int (f 8 ((8 * b) + ((i + 1) % cb))), .long d.toInt64, .int (0 : Int32)]) (rest := []) ⟨hx, hb, hml, hown, hts⟩ (c_X8_reaches l X G A (md_M G B h ad n f) (f 7 ((8 * a) + k)) (f 8 ((8 * a) + k)) (f 7 ((8 * b) + i)) (f 8 ((8 * b) + i)) (f 7 ((8 * b) + ((i + 1) % cb))) (f 8 ((8 * b) + ((i + 1) % cb))) d.toInt64 (0 : Int32) false rfl) (va_cwS 8 hts gX8_cornersReach_X8_reaches rfl rfl rfl (by decide +kernel) ⟨Nat.le_of_ble_eq_true rfl, Nat.le_of_ble_eq_true rfl⟩) (mp_preS hC hS hM) rfl rfl hl.1 rfl (lv_room (Nat.le_of_ble_eq_true rfl)) dX8_cornersReach_110 ⟨Nat.le_of_ble_eq_true rfl, Nat.le_of_ble_eq_true rfl⟩) hS (fun H locs hM hS => ?_)
              refine lv_if_eq (tgt := 118) hx hb dX8_cornersReach_113 (by decide) (fun cr => ?_) (fun cr => ?_)
              · have cr : (pB (rc_reach (f 7 ((8 * a) + k)) (f 8 ((8 * a) + k)) (f 7 ((8 * b) + i)) (f 8 ((8 * b) + i)) (f 7 ((8 * b) + ((i + 1) % cb))) (f 8 ((8 * b) + ((i + 1) % cb))) d.toInt64 false)) = false := bI_0.mp cr
                refine lv_iinc (v := nI (i + 1)) (lv' := [(5, .int (nI (i + 1))), (7, .int (nI ((8 * b) + ((i + 1) % cb)))), (6, .int (nI ((8 * b) + i))), (0, .ref h), (1, .int (nI a)), (2, .int (nI b)), (3, .int d), (4, .int (nI k))]) hx hb dX8_cornersReach_118 hl (k := 7) rfl (nI_1 i) (by decide) rfl (fun ls hl => ?_)
                refine lv_goto (tgt := 17) hx hb dX8_cornersReach_121 (by decide) ?_
                exact ih2 (i + 1) ls _ _ (by omega) (by omega) (fun j hj => by
                  by_cases hji : j < i
                  · exact hinv2 j hji
                  · rw [show j = i by omega]; exact pB_not.mp cr) hM hS (lv_sub hl [3, 4, 5, 6, 7, 0] rfl)
              · have cr : (pB (rc_reach (f 7 ((8 * a) + k)) (f 8 ((8 * a) + k)) (f 7 ((8 * b) + i)) (f 8 ((8 * b) + i)) (f 7 ((8 * b) + ((i + 1) % cb))) (f 8 ((8 * b) + ((i + 1) % cb))) d.toInt64 false)) = true := bI_1.mp cr
                refine lv_iconst (v := (1 : Int32)) hx hb dX8_cornersReach_116 (by decide) ?_
                exact mp_zret hx hb hr hlocks (Nat.le_of_ble_eq_true rfl) (Nat.le_of_ble_eq_true rfl) hM hS dX8_cornersReach_117 (by first | rfl | exact bI_nar _) (⟨b1 ⟨k, hlt, i, hlt2, pB_iff.mp cr⟩, rfl⟩)
        exact LP17 _ 0 ls _ _ (Nat.lt_succ_self _) (Nat.zero_le _) (fun u hu => absurd hu (Nat.not_lt_zero u)) hM hS (lv_sub hl [1, 2, 3, 4, 5, 0] rfl)
  exact LP3 _ 0 ls _ _ (Nat.lt_succ_self _) (Nat.zero_le _) (fun u hu => absurd hu (Nat.not_lt_zero u)) hM hS (lv_sub hl [1, 2, 3, 4, 0] rfl)
abbrev rmX8_isNear : Room := { frames := 2, cells := 0, slots := 0, locals := 75 }
set_option maxHeartbeats 4000000 in
set_option maxRecDepth 100000 in
theorem c_X8_isNear (l : Launch) (X : mp_X) (G : mp_G) (A : Nat → Prop) (B : mp_M) (h : Nat) (ad : Nat → Nat) (n : Nat → Int32) (f : Nat → Nat → Int32) (a ca : Nat) (ha9 : a < 13) (hca0 : 0 < ca) (hca8 : ca ≤ 8) (hca : f 6 a = nI ca) (b cb : Nat) (hb9 : b < 13) (hcb0 : 0 < cb) (hcb8 : cb ≤ 8) (hcb : f 6 b = nI cb) (d : Int32) : mp_Met l X G A yX8_isNear wsX8_isNear rmX8_isNear ([.ref h, .int (nI a), .int (nI b), .int d] : List Value) (md_M G B h ad n f) (fun v M1 => v = some (.int (bI (pB (rg_near (md_rg f a ca) (md_rg f b cb) d.toInt64)))) ∧ M1 = md_M G B h ad n f) 0 0 := by
  refine mp_ofW (cc := cX8_isNear) (maxL := 4) (ret := (some .boolean)) (by decide) rfl (Nat.le_of_ble_eq_true rfl) ?_
  intro p e s m below meth c ls hx hb hr hts hown hlocks hnm hml hC hM hS hl
  have hl : lv_has ls 4 [(0, .ref h), (1, .int (nI a)), (2, .int (nI b)), (3, .int d)] := hl
  have hown : s.vm.findClass RX8 = some m.cls := hown
  refine lv_aload_n hx hb dX8_isNear_0 rfl (lv_at hl 0 rfl) ?_
  refine lv_iload_n hx hb dX8_isNear_1 rfl (lv_at hl 1 rfl) ?_
  refine lv_iload_n hx hb dX8_isNear_2 rfl (lv_at hl 2 rfl) ?_
  refine lv_iload_n hx hb dX8_isNear_3 rfl (lv_at hl 3 rfl) ?_
  refine mp_calli (va_runV (As := [.int (nI a), .int (nI b), .int d]) (rest := []) ⟨hx, hb, hml, hown, hts⟩ (c_X8_cornersReach l X G A B h ad n f a ca (by omega) (by omega) (by omega) hca b cb (by omega) (by omega) (by omega) hcb d) (cwV 3 hts gX8_isNear_X8_cornersReach rfl rfl rfl (by decide +kernel) ⟨Nat.le_of_ble_eq_true rfl, Nat.le_of_ble_eq_true rfl⟩) (mp_preV hC hS hM (md_recv hC hM)) rfl rfl hl.1 rfl (lv_room (Nat.le_of_ble_eq_true rfl)) dX8_isNear_4 ⟨Nat.le_of_ble_eq_true rfl, Nat.le_of_ble_eq_true rfl⟩) hS (fun H locs hM hS => ?_)
  refine lv_if_ne (tgt := 20) hx hb dX8_isNear_7 (by decide) (fun c1 => ?_) (fun c1 => ?_)
  · have c1 : (pB (rg_cor (md_rg f a ca) (md_rg f b cb) (d).toInt64)) = true := bI_1.mp c1
    refine lv_iconst (v := (1 : Int32)) hx hb dX8_isNear_20 (by decide) ?_
    refine lv_goto (tgt := 25) hx hb dX8_isNear_21 (by decide) ?_
    exact mp_zret hx hb hr hlocks (Nat.le_of_ble_eq_true rfl) (Nat.le_of_ble_eq_true rfl) hM hS dX8_isNear_25 (by first | rfl | exact bI_nar _) (⟨by first | exact b1 (Or.inl (pB_iff.mp c1)) | exact b1 (Or.inr (pB_iff.mp c2)) | exact b0 (fun q => q.elim (pB_not.mp c1) (pB_not.mp c2)), rfl⟩)
  · have c1 : (pB (rg_cor (md_rg f a ca) (md_rg f b cb) (d).toInt64)) = false := bI_0.mp c1
    refine lv_aload_n hx hb dX8_isNear_10 rfl (lv_at hl 0 rfl) ?_
    refine lv_iload_n hx hb dX8_isNear_11 rfl (lv_at hl 2 rfl) ?_
    refine lv_iload_n hx hb dX8_isNear_12 rfl (lv_at hl 1 rfl) ?_
    refine lv_iload_n hx hb dX8_isNear_13 rfl (lv_at hl 3 rfl) ?_
    refine mp_calli (va_runV (As := [.int (nI b), .int (nI a), .int d]) (rest := []) ⟨hx, hb, hml, hown, hts⟩ (c_X8_cornersReach l X G A B h ad n f b cb (by omega) (by omega) (by omega) hcb a ca (by omega) (by omega) (by omega) hca d) (cwV 3 hts gX8_isNear_X8_cornersReach rfl rfl rfl (by decide +kernel) ⟨Nat.le_of_ble_eq_true rfl, Nat.le_of_ble_eq_true rfl⟩) (mp_preV hC hS hM (md_recv hC hM)) rfl rfl hl.1 rfl (lv_room (Nat.le_of_ble_eq_true rfl)) dX8_isNear_14 ⟨Nat.le_of_ble_eq_true rfl, Nat.le_of_ble_eq_true rfl⟩) hS (fun H locs hM hS => ?_)
    refine lv_if_eq (tgt := 24) hx hb dX8_isNear_17 (by decide) (fun c2 => ?_) (fun c2 => ?_)
    · have c2 : (pB (rg_cor (md_rg f b cb) (md_rg f a ca) (d).toInt64)) = false := bI_0.mp c2
      refine lv_iconst (v := (0 : Int32)) hx hb dX8_isNear_24 (by decide) ?_
      exact mp_zret hx hb hr hlocks (Nat.le_of_ble_eq_true rfl) (Nat.le_of_ble_eq_true rfl) hM hS dX8_isNear_25 (by first | rfl | exact bI_nar _) (⟨by first | exact b1 (Or.inl (pB_iff.mp c1)) | exact b1 (Or.inr (pB_iff.mp c2)) | exact b0 (fun q => q.elim (pB_not.mp c1) (pB_not.mp c2)), rfl⟩)
    · have c2 : (pB (rg_cor (md_rg f b cb) (md_rg f a ca) (d).toInt64)) = true := bI_1.mp c2
      refine lv_iconst (v := (1 : Int32)) hx hb dX8_isNear_20 (by decide) ?_
      refine lv_goto (tgt := 25) hx hb dX8_isNear_21 (by decide) ?_
      exact mp_zret hx hb hr hlocks (Nat.le_of_ble_eq_true rfl) (Nat.le_of_ble_eq_true rfl) hM hS dX8_isNear_25 (by first | rfl | exact bI_nar _) (⟨by first | exact b1 (Or.inl (pB_iff.mp c1)) | exact b1 (Or.inr (pB_iff.mp c2)) | exact b0 (fun q => q.elim (pB_not.mp c1) (pB_not.mp c2)), rfl⟩)
abbrev rmX8_near : Room := { frames := 3, cells := 0, slots := 0, locals := 98 }
set_option maxHeartbeats 4000000 in
set_option maxRecDepth 100000 in
theorem c_X8_near (l : Launch) (X : mp_X) (G : mp_G) (A : Nat → Prop) (B : mp_M) (h : Nat) (ad : Nat → Nat) (n : Nat → Int32) (f : Nat → Nat → Int32) (pl : Nat) (co : Nat → Nat) (hpl : n 1 = nI pl) (hpl9 : pl ≤ 12) (hco : ∀ o, o < pl → f 6 o = nI (co o) ∧ 0 < co o ∧ co o ≤ 8) (a b d : Int32) : mp_Met l X G A yX8_near wsX8_near rmX8_near ([.ref h, .int a, .int b, .int d] : List Value) (md_M G B h ad n f) (fun v M1 => v = some (.int (bI (pB (md_nearOK f pl co a b d)))) ∧ M1 = md_M G B h ad n f) 0 0 := by
  refine mp_ofW (cc := cX8_near) (maxL := 4) (ret := (some .boolean)) (by decide) rfl (Nat.le_of_ble_eq_true rfl) ?_
  intro p e s m below meth c ls hx hb hr hts hown hlocks hnm hml hC hM hS hl
  have hl : lv_has ls 4 [(0, .ref h), (1, .int a), (2, .int b), (3, .int d)] := hl
  have hown : s.vm.findClass RX8 = some m.cls := hown
  refine lv_aload_n hx hb dX8_near_0 rfl (lv_at hl 0 rfl) ?_
  refine lv_iload_n hx hb dX8_near_1 rfl (lv_at hl 1 rfl) ?_
  refine mp_calli (va_runV (As := [.int a]) (rest := []) ⟨hx, hb, hml, hown, hts⟩ (c_X8_isPlot l X G A B h ad n f a) (cwV 1 hts gX8_near_X8_isPlot rfl rfl rfl (by decide +kernel) ⟨Nat.le_of_ble_eq_true rfl, Nat.le_of_ble_eq_true rfl⟩) (mp_preV hC hS hM (md_recv hC hM)) rfl rfl hl.1 rfl (lv_room (Nat.le_of_ble_eq_true rfl)) dX8_near_2 ⟨Nat.le_of_ble_eq_true rfl, Nat.le_of_ble_eq_true rfl⟩) hS (fun H locs hM hS => ?_)
  refine lv_if_eq (tgt := 45) hx hb dX8_near_5 (by decide) (fun c1 => ?_) (fun c1 => ?_)
  · have c1 : (pB (md_in a 0 (n 1 - 1))) = false := bI_0.mp c1
    rw [hpl] at c1
    refine lv_iconst (v := (0 : Int32)) hx hb dX8_near_45 (by decide) ?_
    exact mp_zret hx hb hr hlocks (Nat.le_of_ble_eq_true rfl) (Nat.le_of_ble_eq_true rfl) hM hS dX8_near_46 (by first | rfl | exact bI_nar _) (⟨b0 (fun q => by first | exact pB_not.mp c1 q.1 | exact pB_not.mp c2 q.2.1 | exact q.2.2.1 c3 | exact pB_not.mp c4 q.2.2.2.1 | (have q5 := q.2.2.2.2; rw [nI_clamp (by omega), nI_clamp (by omega)] at q5; exact pB_not.mp c5 q5)), rfl⟩)
  · have c1 : (pB (md_in a 0 (n 1 - 1))) = true := bI_1.mp c1
    rw [hpl] at c1
    refine lv_aload_n hx hb dX8_near_8 rfl (lv_at hl 0 rfl) ?_
    refine lv_iload_n hx hb dX8_near_9 rfl (lv_at hl 2 rfl) ?_
    refine mp_calli (va_runV (As := [.int b]) (rest := []) ⟨hx, hb, hml, hown, hts⟩ (c_X8_isPlot l X G A B h ad n f b) (cwV 1 hts gX8_near_X8_isPlot rfl rfl rfl (by decide +kernel) ⟨Nat.le_of_ble_eq_true rfl, Nat.le_of_ble_eq_true rfl⟩) (mp_preV hC hS hM (md_recv hC hM)) rfl rfl hl.1 rfl (lv_room (Nat.le_of_ble_eq_true rfl)) dX8_near_10 ⟨Nat.le_of_ble_eq_true rfl, Nat.le_of_ble_eq_true rfl⟩) hS (fun H locs hM hS => ?_)
    refine lv_if_eq (tgt := 45) hx hb dX8_near_13 (by decide) (fun c2 => ?_) (fun c2 => ?_)
    · have c2 : (pB (md_in b 0 (n 1 - 1))) = false := bI_0.mp c2
      rw [hpl] at c2
      refine lv_iconst (v := (0 : Int32)) hx hb dX8_near_45 (by decide) ?_
      exact mp_zret hx hb hr hlocks (Nat.le_of_ble_eq_true rfl) (Nat.le_of_ble_eq_true rfl) hM hS dX8_near_46 (by first | rfl | exact bI_nar _) (⟨b0 (fun q => by first | exact pB_not.mp c1 q.1 | exact pB_not.mp c2 q.2.1 | exact q.2.2.1 c3 | exact pB_not.mp c4 q.2.2.2.1 | (have q5 := q.2.2.2.2; rw [nI_clamp (by omega), nI_clamp (by omega)] at q5; exact pB_not.mp c5 q5)), rfl⟩)
    · have c2 : (pB (md_in b 0 (n 1 - 1))) = true := bI_1.mp c2
      rw [hpl] at c2
      refine lv_iload_n hx hb dX8_near_16 rfl (lv_at hl 1 rfl) ?_
      refine lv_iload_n hx hb dX8_near_17 rfl (lv_at hl 2 rfl) ?_
      refine lv_icmp_eq (tgt := 45) hx hb dX8_near_18 (by decide) (fun c3 => ?_) (fun c3 => ?_)
      · have c3 := c3
        refine lv_iconst (v := (0 : Int32)) hx hb dX8_near_45 (by decide) ?_
        exact mp_zret hx hb hr hlocks (Nat.le_of_ble_eq_true rfl) (Nat.le_of_ble_eq_true rfl) hM hS dX8_near_46 (by first | rfl | exact bI_nar _) (⟨b0 (fun q => by first | exact pB_not.mp c1 q.1 | exact pB_not.mp c2 q.2.1 | exact q.2.2.1 c3 | exact pB_not.mp c4 q.2.2.2.1 | (have q5 := q.2.2.2.2; rw [nI_clamp (by omega), nI_clamp (by omega)] at q5; exact pB_not.mp c5 q5)), rfl⟩)
      · have c3 := c3
        refine lv_iload_n hx hb dX8_near_21 rfl (lv_at hl 3 rfl) ?_
        refine lv_iconst (v := (0 : Int32)) hx hb dX8_near_22 (by decide) ?_
        refine lv_bipush (v := (100 : Int32)) hx hb dX8_near_23 (by decide) ?_
        refine mp_calli (va_runS (As := [.int d, .int (0 : Int32), .int (100 : Int32)]) (rest := []) ⟨hx, hb, hml, hown, hts⟩ (c_X8_isIn l X G A (md_M G B h ad n f) d (0 : Int32) (100 : Int32)) (va_cwS 3 hts gX8_near_X8_isIn rfl rfl rfl (by decide +kernel) ⟨Nat.le_of_ble_eq_true rfl, Nat.le_of_ble_eq_true rfl⟩) (mp_preS hC hS hM) rfl rfl hl.1 rfl (lv_room (Nat.le_of_ble_eq_true rfl)) dX8_near_25 ⟨Nat.le_of_ble_eq_true rfl, Nat.le_of_ble_eq_true rfl⟩) hS (fun H locs hM hS => ?_)
        refine lv_if_eq (tgt := 45) hx hb dX8_near_28 (by decide) (fun c4 => ?_) (fun c4 => ?_)
        · have c4 : (pB (md_in d (0 : Int32) (100 : Int32))) = false := bI_0.mp c4
          refine lv_iconst (v := (0 : Int32)) hx hb dX8_near_45 (by decide) ?_
          exact mp_zret hx hb hr hlocks (Nat.le_of_ble_eq_true rfl) (Nat.le_of_ble_eq_true rfl) hM hS dX8_near_46 (by first | rfl | exact bI_nar _) (⟨b0 (fun q => by first | exact pB_not.mp c1 q.1 | exact pB_not.mp c2 q.2.1 | exact q.2.2.1 c3 | exact pB_not.mp c4 q.2.2.2.1 | (have q5 := q.2.2.2.2; rw [nI_clamp (by omega), nI_clamp (by omega)] at q5; exact pB_not.mp c5 q5)), rfl⟩)
        · have c4 : (pB (md_in d (0 : Int32) (100 : Int32))) = true := bI_1.mp c4
          refine lv_aload_n hx hb dX8_near_31 rfl (lv_at hl 0 rfl) ?_
          refine lv_iload_n hx hb dX8_near_32 rfl (lv_at hl 1 rfl) ?_
          refine lv_iload_n hx hb dX8_near_33 rfl (lv_at hl 2 rfl) ?_
          refine lv_iload_n hx hb dX8_near_34 rfl (lv_at hl 3 rfl) ?_
          obtain ⟨a0, ha0, e1⟩ := md_nat (by omega) (pB_iff.mp c1)
          obtain ⟨b0_, hb0, e2⟩ := md_nat (by omega) (pB_iff.mp c2)
          subst e1; subst e2
          have g1 := hco a0 ha0; have g2 := hco b0_ hb0
          refine mp_calli (va_runV (As := [.int (nI a0), .int (nI b0_), .int d]) (rest := []) ⟨hx, hb, hml, hown, hts⟩ (c_X8_isNear l X G A B h ad n f a0 (co a0) (by omega) (by omega) (by omega) g1.1 b0_ (co b0_) (by omega) (by omega) (by omega) g2.1 d) (cwV 3 hts gX8_near_X8_isNear rfl rfl rfl (by decide +kernel) ⟨Nat.le_of_ble_eq_true rfl, Nat.le_of_ble_eq_true rfl⟩) (mp_preV hC hS hM (md_recv hC hM)) rfl rfl hl.1 rfl (lv_room (Nat.le_of_ble_eq_true rfl)) dX8_near_35 ⟨Nat.le_of_ble_eq_true rfl, Nat.le_of_ble_eq_true rfl⟩) hS (fun H locs hM hS => ?_)
          refine lv_if_eq (tgt := 45) hx hb dX8_near_38 (by decide) (fun c5 => ?_) (fun c5 => ?_)
          · have c5 : (pB (rg_near (md_rg f a0 (co a0)) (md_rg f b0_ (co b0_)) d.toInt64)) = false := bI_0.mp c5
            refine lv_iconst (v := (0 : Int32)) hx hb dX8_near_45 (by decide) ?_
            exact mp_zret hx hb hr hlocks (Nat.le_of_ble_eq_true rfl) (Nat.le_of_ble_eq_true rfl) hM hS dX8_near_46 (by first | rfl | exact bI_nar _) (⟨b0 (fun q => by first | exact pB_not.mp c1 q.1 | exact pB_not.mp c2 q.2.1 | exact q.2.2.1 c3 | exact pB_not.mp c4 q.2.2.2.1 | (have q5 := q.2.2.2.2; rw [nI_clamp (by omega), nI_clamp (by omega)] at q5; exact pB_not.mp c5 q5)), rfl⟩)
          · have c5 : (pB (rg_near (md_rg f a0 (co a0)) (md_rg f b0_ (co b0_)) d.toInt64)) = true := bI_1.mp c5
            refine lv_iconst (v := (1 : Int32)) hx hb dX8_near_41 (by decide) ?_
            refine lv_goto (tgt := 46) hx hb dX8_near_42 (by decide) ?_
            exact mp_zret hx hb hr hlocks (Nat.le_of_ble_eq_true rfl) (Nat.le_of_ble_eq_true rfl) hM hS dX8_near_46 (by first | rfl | exact bI_nar _) (⟨b1 ⟨pB_iff.mp c1, pB_iff.mp c2, c3, pB_iff.mp c4, by rw [nI_clamp (by omega), nI_clamp (by omega)]; exact pB_iff.mp c5⟩, rfl⟩)
