/-! ===== what changes ===== -/
def md_applyOK (pl ap : Nat) (q x0 y0 x1 y1 ht us : Int32) : Prop := md_in q 0 (nI pl - 1) ∧ md_design x0 y0 x1 y1 ht us ∧ ap ≠ 40
def md_applyF (f : Nat → Nat → Int32) (a : Nat) (q x0 y0 x1 y1 ht us td : Int32) : Nat → Nat → Int32 := va_up (va_up (va_up (va_up (va_up (va_up (va_up (va_up (va_up (va_up (va_up (va_up f 23 (upd (f 23) a q)) 24 (upd (f 24) a x0)) 25 (upd (f 25) a y0)) 26 (upd (f 26) a x1)) 27 (upd (f 27) a y1)) 28 (upd (f 28) a ht)) 29 (upd (f 29) a us)) 30 (upd (f 30) a td)) 34 (upd (f 34) a (-1))) 35 (upd (f 35) a (-1))) 36 (upd (f 36) a (-1))) 37 (upd (f 37) a (-1))
noncomputable def md_rule (n : Nat → Int32) (f : Nat → Nat → Int32) (pn ap : Nat) (zmf co : Nat → Nat) (a r : Nat) : Int32 := md_broken f pn ap zmf r (co r) (f 24 a) (f 25 a) (f 26 a) (f 27 a) (f 28 a) (f 29 a) (f 30 a) (n 0)
noncomputable def md_decR (rule w : Int32) : Int32 := if pB (rule = 0 ∧ 6 ≤ w) then 9 else rule
noncomputable def md_decF (f : Nat → Nat → Int32) (a : Nat) (rule td : Int32) : Nat → Nat → Int32 := va_up (va_up (va_up f 31 (upd (f 31) a (if rule = 0 then 1 else 2))) 32 (upd (f 32) a rule)) 34 (upd (f 34) a td)
def md_decOK (n : Nat → Int32) (f : Nat → Nat → Int32) (ap : Nat) (q : Int32) : Prop := md_in q 0 (nI ap - 1) ∧ f 31 q.toNatClampNeg = 0 ∧ f 30 q.toNatClampNeg + 31 ≤ n 0
def md_appOK (ap : Nat) (q : Int32) : Prop := md_in q 0 (nI ap - 1)
noncomputable def md_buildR (n : Nat → Int32) (f : Nat → Nat → Int32) (ap : Nat) (q : Int32) : Int32 := if pB (md_appOK ap q) then (if md_how n f q.toNatClampNeg = 1 then 3 else if md_how n f q.toNatClampNeg = 3 then 4 else -1) else -1
noncomputable def md_buildF (n : Nat → Int32) (f : Nat → Nat → Int32) (ap : Nat) (q : Int32) : Nat → Nat → Int32 := if pB (md_appOK ap q) then (if md_how n f q.toNatClampNeg = 1 then va_up (va_up f 35 (upd (f 35) q.toNatClampNeg (n 0))) 31 (upd (f 31) q.toNatClampNeg 3) else if md_how n f q.toNatClampNeg = 3 then va_up (va_up f 36 (upd (f 36) q.toNatClampNeg (n 0))) 31 (upd (f 31) q.toNatClampNeg 4) else f) else f
theorem md_cov_39 {f : Nat → Nat → Int32} (g : Nat → Int32) (r : Nat) (d k base : Int32) : ∀ a, md_cov (va_up f 39 g) r d k base a = md_cov f r d k base a
  | 0 => rfl
  | a + 1 => by
    rw [md_cov, md_cov, md_cov_39 g r d k base a]
    rfl
theorem md_zo_39 {f : Nat → Nat → Int32} (g : Nat → Int32) (pn : Nat) (zmf : Nat → Nat) (r : Nat) (d k : Int32) : md_zo (va_up f 39 g) pn zmf r d k = md_zo f pn zmf r d k := rfl
theorem md_broken_39 {f : Nat → Nat → Int32} (g : Nat → Int32) (pn ap : Nat) (zmf : Nat → Nat) (r cn : Nat) (x0 y0 x1 y1 ht us d k : Int32) : md_broken (va_up f 39 g) pn ap zmf r cn x0 y0 x1 y1 ht us d k = md_broken f pn ap zmf r cn x0 y0 x1 y1 ht us d k := by
  have e5 : ∀ z, md_s5 (va_up f 39 g) ap r cn z x0 y0 x1 y1 ht us d k = md_s5 f ap r cn z x0 y0 x1 y1 ht us d k := by
    intro z
    simp only [md_s5, md_cov_39]
    rfl
  have e3 : ∀ z, md_s3 (va_up f 39 g) ap r cn z x0 y0 x1 y1 ht us d k = md_s3 f ap r cn z x0 y0 x1 y1 ht us d k := by
    intro z
    simp only [md_s3, md_s4, e5]
    rfl
  simp only [md_broken, md_zo_39, e3]
  rfl
def md_aplOK (n : Nat → Int32) (f : Nat → Nat → Int32) (ap : Nat) (q : Int32) : Prop := md_in q 0 (nI ap - 1) ∧ f 31 q.toNatClampNeg = 2 ∧ f 39 q.toNatClampNeg = 0 ∧ n 0 ≤ f 34 q.toNatClampNeg + 60
noncomputable def md_aplF (f : Nat → Nat → Int32) (a : Nat) (rule td : Int32) : Nat → Nat → Int32 := if rule = 0 then va_up (va_up (va_up f 39 (upd (f 39) a 1)) 31 (upd (f 31) a 1)) 34 (upd (f 34) a td) else va_up f 39 (upd (f 39) a 1)
noncomputable def cntI (P : Nat → Prop) : Nat → Int32
  | 0 => 0
  | a + 1 => cntI P a + (if pB (P a) then 1 else 0)
def md_clashP (n : Nat → Int32) (f : Nat → Nat → Int32) (b a : Nat) : Prop := a ≠ b ∧ md_stood f a (n 0) (n 0) ∧ md_meets f a (f 24 b) (f 25 b) (f 26 b) (f 27 b)
noncomputable def md_clash (n : Nat → Int32) (f : Nat → Nat → Int32) (ap : Nat) (q : Int32) : Int32 := if pB (md_appOK ap q) then cntI (md_clashP n f q.toNatClampNeg) ap else -1
noncomputable def md_toldV (n : Nat → Int32) (f : Nat → Nat → Int32) (a : Nat) (w : Int32) : Int32 :=
  if w = 0 then md_how n f a else if w = 1 then f 30 a else if w = 2 then f 23 a else if w = 3 then f 32 a else if w = 4 then f 33 a else if w = 5 then f 34 a else if w = 6 then f 35 a else if w = 7 then f 36 a
  else if w = 8 then (if md_how n f a = 0 then f 30 a + 30 else if md_how n f a = 1 then f 34 a + 400 else if md_how n f a = 3 then f 35 a + 300 else if pB (md_how n f a = 2 ∧ f 39 a = 0) then f 34 a + 60 else -1)
  else if w = 9 then (if f 39 a = 0 then 0 else 1) else -1
noncomputable def md_told (n : Nat → Int32) (f : Nat → Nat → Int32) (ap : Nat) (q w : Int32) : Int32 := if pB (md_appOK ap q) then md_toldV n f q.toNatClampNeg w else -1
def md_razeOK (n : Nat → Int32) (f : Nat → Nat → Int32) (ap : Nat) (q w : Int32) : Prop := md_in q 0 (nI ap - 1) ∧ f 36 q.toNatClampNeg ≠ -1 ∧ f 36 q.toNatClampNeg ≤ w ∧ w ≤ n 0 ∧ f 37 q.toNatClampNeg = -1
noncomputable def md_razeF (n : Nat → Int32) (f : Nat → Nat → Int32) (ap : Nat) (q w : Int32) : Nat → Nat → Int32 := if pB (md_razeOK n f ap q w) then va_up (va_up f 37 (upd (f 37) q.toNatClampNeg w)) 38 (upd (f 38) q.toNatClampNeg (n 0)) else f
def md_holdOK (n : Nat → Int32) (pl hn : Nat) (q w t : Int32) : Prop := md_in q 0 (nI pl - 1) ∧ md_in w 0 99 ∧ md_in t 0 (n 0) ∧ hn ≠ 100
def md_holdF (f : Nat → Nat → Int32) (hn : Nat) (q w t td : Int32) : Nat → Nat → Int32 := va_up (va_up (va_up (va_up f 41 (upd (f 41) hn q)) 42 (upd (f 42) hn w)) 43 (upd (f 43) hn t)) 44 (upd (f 44) hn td)
def md_holdP (f : Nat → Nat → Int32) (q d k : Int32) (i : Nat) : Prop := f 41 i = q ∧ f 43 i ≤ d ∧ f 44 i ≤ k
noncomputable def md_holder (f : Nat → Nat → Int32) (pl hn : Nat) (q d k : Int32) : Int32 := if pB (md_in q 0 (nI pl - 1) ∧ md_in d 0 9999 ∧ md_in k 0 9999) then (match bst (md_holdP f q d k) (f 43) hn with | none => -1 | some j => f 42 j) else -1
noncomputable def md_count (n : Nat → Int32) (f : Nat → Nat → Int32) (ap : Nat) (w : Int32) : Int32 := if w = 0 then n 0 else if w = 1 then n 1 else if w = 2 then n 3 else if w = 3 then n 4 else if w = 4 then n 11 else if w = 5 then n 2 else if w = 6 then cntI (fun a => md_stood f a (n 0) (n 0)) ap else -1
abbrev rmX8_apply : Room := { frames := 2, cells := 0, slots := 0, locals := 47 }
set_option maxHeartbeats 4000000 in
set_option maxRecDepth 100000 in
theorem c_X8_apply (l : Launch) (X : mp_X) (G : mp_G) (A : Nat → Prop) (B : mp_M) (h : Nat) (ad : Nat → Nat) (n : Nat → Int32) (f : Nat → Nat → Int32) (pl : Nat) (hpl : n 1 = nI pl) (hpl9 : pl ≤ 12) (ap : Nat) (hap : n 4 = nI ap) (hap9 : ap ≤ 40) (q x0 y0 x1 y1 ht us : Int32) : mp_Met l X G A yX8_apply wsX8_apply rmX8_apply ([.ref h, .int q, .int x0, .int y0, .int x1, .int y1, .int ht, .int us] : List Value) (md_M G B h ad n f) (fun v M1 => v = some (.int (if pB (md_applyOK pl ap q x0 y0 x1 y1 ht us) then nI ap else -1)) ∧ M1 = if pB (md_applyOK pl ap q x0 y0 x1 y1 ht us) then md_M G B h ad (upd n 4 (nI (ap + 1))) (md_applyF f ap q x0 y0 x1 y1 ht us (n 0)) else md_M G B h ad n f) 0 0 := by
  refine mp_ofW (cc := cX8_apply) (maxL := 9) (ret := (some .int)) (by decide) rfl (Nat.le_of_ble_eq_true rfl) ?_
  intro p e s m below meth c ls hx hb hr hts hown hlocks hnm hml hC hM hS hl
  have hl : lv_has ls 9 [(0, .ref h), (1, .int q), (2, .int x0), (3, .int y0), (4, .int x1), (5, .int y1), (6, .int ht), (7, .int us)] := hl
  have hown : s.vm.findClass RX8 = some m.cls := hown
  have fl_122 := hts (.fieldLink RX8 122 "PlanningBenchModel" "applications" "I") (List.mem_of_getElem? (i := 1) rfl)
  have hin_wsX80 : ∀ w ∈ wsX80, w ∈ wsX8_apply := fun _ h => List.mem_cons_of_mem _ (List.mem_append_right _ h)
  have fl_48 := hts (.fieldLink RX8 48 "PlanningBenchModel" "onPlot" "[I") (List.mem_of_getElem? (i := 2) rfl)
  have fl_51 := hts (.fieldLink RX8 51 "PlanningBenchModel" "x0s" "[I") (List.mem_of_getElem? (i := 3) rfl)
  have fl_54 := hts (.fieldLink RX8 54 "PlanningBenchModel" "y0s" "[I") (List.mem_of_getElem? (i := 4) rfl)
  have fl_57 := hts (.fieldLink RX8 57 "PlanningBenchModel" "x1s" "[I") (List.mem_of_getElem? (i := 5) rfl)
  have fl_60 := hts (.fieldLink RX8 60 "PlanningBenchModel" "y1s" "[I") (List.mem_of_getElem? (i := 6) rfl)
  have fl_63 := hts (.fieldLink RX8 63 "PlanningBenchModel" "heights" "[I") (List.mem_of_getElem? (i := 7) rfl)
  have fl_66 := hts (.fieldLink RX8 66 "PlanningBenchModel" "uses" "[I") (List.mem_of_getElem? (i := 8) rfl)
  have fl_69 := hts (.fieldLink RX8 69 "PlanningBenchModel" "since" "[I") (List.mem_of_getElem? (i := 9) rfl)
  have fl_125 := hts (.fieldLink RX8 125 "PlanningBenchModel" "today" "I") (List.mem_of_getElem? (i := 10) rfl)
  have fl_81 := hts (.fieldLink RX8 81 "PlanningBenchModel" "decided" "[I") (List.mem_of_getElem? (i := 11) rfl)
  have fl_84 := hts (.fieldLink RX8 84 "PlanningBenchModel" "begun" "[I") (List.mem_of_getElem? (i := 12) rfl)
  have fl_87 := hts (.fieldLink RX8 87 "PlanningBenchModel" "done" "[I") (List.mem_of_getElem? (i := 13) rfl)
  have fl_90 := hts (.fieldLink RX8 90 "PlanningBenchModel" "razed" "[I") (List.mem_of_getElem? (i := 14) rfl)
  refine lv_aload_n hx hb dX8_apply_0 rfl (lv_at hl 0 rfl) ?_
  refine lv_iload_n hx hb dX8_apply_1 rfl (lv_at hl 1 rfl) ?_
  refine mp_calli (va_runV (As := [.int q]) (rest := []) ⟨hx, hb, hml, hown, hts⟩ (c_X8_isPlot l X G A B h ad n f q) (cwV 1 hts gX8_apply_X8_isPlot rfl rfl rfl (by decide +kernel) ⟨Nat.le_of_ble_eq_true rfl, Nat.le_of_ble_eq_true rfl⟩) (mp_preV hC hS hM (md_recv hC hM)) rfl rfl hl.1 rfl (lv_room (Nat.le_of_ble_eq_true rfl)) dX8_apply_2 ⟨Nat.le_of_ble_eq_true rfl, Nat.le_of_ble_eq_true rfl⟩) hS (fun H locs hM hS => ?_)
  refine lv_if_eq (tgt := 33) hx hb dX8_apply_5 (by decide) (fun c1 => ?_) (fun c1 => ?_)
  · have c1 : (pB (md_in q 0 (n 1 - 1))) = false := bI_0.mp c1
    refine lv_iconst (v := (-1 : Int32)) hx hb dX8_apply_33 (by decide) ?_
    exact mp_iret hx hb hr hlocks (Nat.le_of_ble_eq_true rfl) (Nat.le_of_ble_eq_true rfl) hM hS dX8_apply_34 (have q : pB (md_applyOK pl ap q x0 y0 x1 y1 ht us) = false := pB_f (fun q => pB_not.mp c1 (by rw [hpl]; exact q.1)); by rw [q]; exact ⟨rfl, rfl⟩)
  · have c1 : (pB (md_in q 0 (n 1 - 1))) = true := bI_1.mp c1
    refine lv_iload_n hx hb dX8_apply_8 rfl (lv_at hl 2 rfl) ?_
    refine lv_iload_n hx hb dX8_apply_9 rfl (lv_at hl 3 rfl) ?_
    refine lv_iload hx hb dX8_apply_10 (lv_at hl 4 rfl) ?_
    refine lv_iload hx hb dX8_apply_12 (lv_at hl 5 rfl) ?_
    refine lv_iload hx hb dX8_apply_14 (lv_at hl 6 rfl) ?_
    refine lv_iload hx hb dX8_apply_16 (lv_at hl 7 rfl) ?_
    refine mp_calli (va_runS (As := [.int x0, .int y0, .int x1, .int y1, .int ht, .int us]) (rest := []) ⟨hx, hb, hml, hown, hts⟩ (c_X8_isDesign l X G A (md_M G B h ad n f) x0 y0 x1 y1 ht us) (va_cwS 6 hts gX8_apply_X8_isDesign rfl rfl rfl (by decide +kernel) ⟨Nat.le_of_ble_eq_true rfl, Nat.le_of_ble_eq_true rfl⟩) (mp_preS hC hS hM) rfl rfl hl.1 rfl (lv_room (Nat.le_of_ble_eq_true rfl)) dX8_apply_18 ⟨Nat.le_of_ble_eq_true rfl, Nat.le_of_ble_eq_true rfl⟩) hS (fun H locs hM hS => ?_)
    refine lv_if_eq (tgt := 33) hx hb dX8_apply_21 (by decide) (fun c2 => ?_) (fun c2 => ?_)
    · have c2 : (pB (md_design x0 y0 x1 y1 ht us)) = false := bI_0.mp c2
      refine lv_iconst (v := (-1 : Int32)) hx hb dX8_apply_33 (by decide) ?_
      exact mp_iret hx hb hr hlocks (Nat.le_of_ble_eq_true rfl) (Nat.le_of_ble_eq_true rfl) hM hS dX8_apply_34 (have q : pB (md_applyOK pl ap q x0 y0 x1 y1 ht us) = false := pB_f (fun q => pB_not.mp c2 q.2.1); by rw [q]; exact ⟨rfl, rfl⟩)
    · have c2 : (pB (md_design x0 y0 x1 y1 ht us)) = true := bI_1.mp c2
      refine lv_aload_n hx hb dX8_apply_24 rfl (lv_at hl 0 rfl) ?_
      refine md_geti hx hb hts hin_wsX80 hown hC hM 4 (by decide) rfl fl_122 dX8_apply_25 ?_
      refine mp_top (nI ap) hap ?_
      refine lv_bipush (v := (40 : Int32)) hx hb dX8_apply_28 (by decide) ?_
      refine lv_icmp_ne (tgt := 35) hx hb dX8_apply_30 (by decide) (fun c3 => ?_) (fun c3 => ?_)
      · have c3 := nn_neq (a := ap) (b := 40) (by omega) (by omega) c3
        refine lv_aload_n hx hb dX8_apply_35 rfl (lv_at hl 0 rfl) ?_
        refine md_geti hx hb hts hin_wsX80 hown hC hM 4 (by decide) rfl fl_122 dX8_apply_36 ?_
        refine mp_top (nI ap) hap ?_
        refine lv_istore (lv' := [(8, .int (nI ap)), (0, .ref h), (1, .int q), (2, .int x0), (3, .int y0), (4, .int x1), (5, .int y1), (6, .int ht), (7, .int us)]) hx hb dX8_apply_39 hl (by decide) rfl (fun ls hl => ?_)
        refine lv_aload_n hx hb dX8_apply_41 rfl (lv_at hl 1 rfl) ?_
        refine lv_dup hx hb dX8_apply_42 rfl ?_
        refine md_geti hx hb hts hin_wsX80 hown hC hM 4 (by decide) rfl fl_122 dX8_apply_43 ?_
        refine mp_top (nI ap) hap ?_
        refine lv_iconst (v := (1 : Int32)) hx hb dX8_apply_46 (by decide) ?_
        refine lv_iadd hx hb dX8_apply_47 ?_
        refine mp_top (nI (ap + 1)) (nI_add ap 1) ?_
        refine md_puti hx hb hts hin_wsX80 hown hC hM hS 4 (by decide) rfl rfl rfl fl_122 dX8_apply_48 (fun H locs hM hS => ?_)
        refine lv_aload_n hx hb dX8_apply_51 rfl (lv_at hl 1 rfl) ?_
        refine md_getr hx hb hts hin_wsX80 hown hC hM 23 (by decide) rfl fl_48 dX8_apply_52 ?_
        refine lv_iload hx hb dX8_apply_55 (lv_at hl 0 rfl) ?_
        refine lv_iload_n hx hb dX8_apply_57 rfl (lv_at hl 2 rfl) ?_
        refine md_iast hx hb hC hM hS 23 rfl (j := ap) (by omega) (by decide) dX8_apply_58 (fun H locs hM hS => ?_)
        refine lv_aload_n hx hb dX8_apply_59 rfl (lv_at hl 1 rfl) ?_
        refine md_getr hx hb hts hin_wsX80 hown hC hM 24 (by decide) rfl fl_51 dX8_apply_60 ?_
        refine lv_iload hx hb dX8_apply_63 (lv_at hl 0 rfl) ?_
        refine lv_iload_n hx hb dX8_apply_65 rfl (lv_at hl 3 rfl) ?_
        refine md_iast hx hb hC hM hS 24 rfl (j := ap) (by omega) (by decide) dX8_apply_66 (fun H locs hM hS => ?_)
        have hM : mp_P G.1 A (md_M G B h ad (upd n 4 (nI (ap + 1))) (va_up (va_up f 23 (upd (f 23) ap q)) 24 (upd (f 24) ap x0))) H := hM
        refine lv_aload_n hx hb dX8_apply_67 rfl (lv_at hl 1 rfl) ?_
        refine md_getr hx hb hts hin_wsX80 hown hC hM 25 (by decide) rfl fl_54 dX8_apply_68 ?_
        refine lv_iload hx hb dX8_apply_71 (lv_at hl 0 rfl) ?_
        refine lv_iload_n hx hb dX8_apply_73 rfl (lv_at hl 4 rfl) ?_
        refine md_iast hx hb hC hM hS 25 rfl (j := ap) (by omega) (by decide) dX8_apply_74 (fun H locs hM hS => ?_)
        have hM : mp_P G.1 A (md_M G B h ad (upd n 4 (nI (ap + 1))) (va_up (va_up (va_up f 23 (upd (f 23) ap q)) 24 (upd (f 24) ap x0)) 25 (upd (f 25) ap y0))) H := hM
        refine lv_aload_n hx hb dX8_apply_75 rfl (lv_at hl 1 rfl) ?_
        refine md_getr hx hb hts hin_wsX80 hown hC hM 26 (by decide) rfl fl_57 dX8_apply_76 ?_
        refine lv_iload hx hb dX8_apply_79 (lv_at hl 0 rfl) ?_
        refine lv_iload hx hb dX8_apply_81 (lv_at hl 5 rfl) ?_
        refine md_iast hx hb hC hM hS 26 rfl (j := ap) (by omega) (by decide) dX8_apply_83 (fun H locs hM hS => ?_)
        have hM : mp_P G.1 A (md_M G B h ad (upd n 4 (nI (ap + 1))) (va_up (va_up (va_up (va_up f 23 (upd (f 23) ap q)) 24 (upd (f 24) ap x0)) 25 (upd (f 25) ap y0)) 26 (upd (f 26) ap x1))) H := hM
        refine lv_aload_n hx hb dX8_apply_84 rfl (lv_at hl 1 rfl) ?_
        refine md_getr hx hb hts hin_wsX80 hown hC hM 27 (by decide) rfl fl_60 dX8_apply_85 ?_
        refine lv_iload hx hb dX8_apply_88 (lv_at hl 0 rfl) ?_
        refine lv_iload hx hb dX8_apply_90 (lv_at hl 6 rfl) ?_
        refine md_iast hx hb hC hM hS 27 rfl (j := ap) (by omega) (by decide) dX8_apply_92 (fun H locs hM hS => ?_)
        have hM : mp_P G.1 A (md_M G B h ad (upd n 4 (nI (ap + 1))) (va_up (va_up (va_up (va_up (va_up f 23 (upd (f 23) ap q)) 24 (upd (f 24) ap x0)) 25 (upd (f 25) ap y0)) 26 (upd (f 26) ap x1)) 27 (upd (f 27) ap y1))) H := hM
        refine lv_aload_n hx hb dX8_apply_93 rfl (lv_at hl 1 rfl) ?_
        refine md_getr hx hb hts hin_wsX80 hown hC hM 28 (by decide) rfl fl_63 dX8_apply_94 ?_
        refine lv_iload hx hb dX8_apply_97 (lv_at hl 0 rfl) ?_
        refine lv_iload hx hb dX8_apply_99 (lv_at hl 7 rfl) ?_
        refine md_iast hx hb hC hM hS 28 rfl (j := ap) (by omega) (by decide) dX8_apply_101 (fun H locs hM hS => ?_)
        have hM : mp_P G.1 A (md_M G B h ad (upd n 4 (nI (ap + 1))) (va_up (va_up (va_up (va_up (va_up (va_up f 23 (upd (f 23) ap q)) 24 (upd (f 24) ap x0)) 25 (upd (f 25) ap y0)) 26 (upd (f 26) ap x1)) 27 (upd (f 27) ap y1)) 28 (upd (f 28) ap ht))) H := hM
        refine lv_aload_n hx hb dX8_apply_102 rfl (lv_at hl 1 rfl) ?_
        refine md_getr hx hb hts hin_wsX80 hown hC hM 29 (by decide) rfl fl_66 dX8_apply_103 ?_
        refine lv_iload hx hb dX8_apply_106 (lv_at hl 0 rfl) ?_
        refine lv_iload hx hb dX8_apply_108 (lv_at hl 8 rfl) ?_
        refine md_iast hx hb hC hM hS 29 rfl (j := ap) (by omega) (by decide) dX8_apply_110 (fun H locs hM hS => ?_)
        have hM : mp_P G.1 A (md_M G B h ad (upd n 4 (nI (ap + 1))) (va_up (va_up (va_up (va_up (va_up (va_up (va_up f 23 (upd (f 23) ap q)) 24 (upd (f 24) ap x0)) 25 (upd (f 25) ap y0)) 26 (upd (f 26) ap x1)) 27 (upd (f 27) ap y1)) 28 (upd (f 28) ap ht)) 29 (upd (f 29) ap us))) H := hM
        refine lv_aload_n hx hb dX8_apply_111 rfl (lv_at hl 1 rfl) ?_
        refine md_getr hx hb hts hin_wsX80 hown hC hM 30 (by decide) rfl fl_69 dX8_apply_112 ?_
        refine lv_iload hx hb dX8_apply_115 (lv_at hl 0 rfl) ?_
        refine lv_aload_n hx hb dX8_apply_117 rfl (lv_at hl 1 rfl) ?_
        refine md_geti hx hb hts hin_wsX80 hown hC hM 0 (by decide) rfl fl_125 dX8_apply_118 ?_
        refine mp_top (n 0) rfl ?_
        refine md_iast hx hb hC hM hS 30 rfl (j := ap) (by omega) (by decide) dX8_apply_121 (fun H locs hM hS => ?_)
        have hM : mp_P G.1 A (md_M G B h ad (upd n 4 (nI (ap + 1))) (va_up (va_up (va_up (va_up (va_up (va_up (va_up (va_up f 23 (upd (f 23) ap q)) 24 (upd (f 24) ap x0)) 25 (upd (f 25) ap y0)) 26 (upd (f 26) ap x1)) 27 (upd (f 27) ap y1)) 28 (upd (f 28) ap ht)) 29 (upd (f 29) ap us)) 30 (upd (f 30) ap (n 0)))) H := hM
        refine lv_aload_n hx hb dX8_apply_122 rfl (lv_at hl 1 rfl) ?_
        refine md_getr hx hb hts hin_wsX80 hown hC hM 34 (by decide) rfl fl_81 dX8_apply_123 ?_
        refine lv_iload hx hb dX8_apply_126 (lv_at hl 0 rfl) ?_
        refine lv_iconst (v := (-1 : Int32)) hx hb dX8_apply_128 (by decide) ?_
        refine md_iast hx hb hC hM hS 34 rfl (j := ap) (by omega) (by decide) dX8_apply_129 (fun H locs hM hS => ?_)
        have hM : mp_P G.1 A (md_M G B h ad (upd n 4 (nI (ap + 1))) (va_up (va_up (va_up (va_up (va_up (va_up (va_up (va_up (va_up f 23 (upd (f 23) ap q)) 24 (upd (f 24) ap x0)) 25 (upd (f 25) ap y0)) 26 (upd (f 26) ap x1)) 27 (upd (f 27) ap y1)) 28 (upd (f 28) ap ht)) 29 (upd (f 29) ap us)) 30 (upd (f 30) ap (n 0))) 34 (upd (f 34) ap (-1 : Int32)))) H := hM
        refine lv_aload_n hx hb dX8_apply_130 rfl (lv_at hl 1 rfl) ?_
        refine md_getr hx hb hts hin_wsX80 hown hC hM 35 (by decide) rfl fl_84 dX8_apply_131 ?_
        refine lv_iload hx hb dX8_apply_134 (lv_at hl 0 rfl) ?_
        refine lv_iconst (v := (-1 : Int32)) hx hb dX8_apply_136 (by decide) ?_
        refine md_iast hx hb hC hM hS 35 rfl (j := ap) (by omega) (by decide) dX8_apply_137 (fun H locs hM hS => ?_)
        have hM : mp_P G.1 A (md_M G B h ad (upd n 4 (nI (ap + 1))) (va_up (va_up (va_up (va_up (va_up (va_up (va_up (va_up (va_up (va_up f 23 (upd (f 23) ap q)) 24 (upd (f 24) ap x0)) 25 (upd (f 25) ap y0)) 26 (upd (f 26) ap x1)) 27 (upd (f 27) ap y1)) 28 (upd (f 28) ap ht)) 29 (upd (f 29) ap us)) 30 (upd (f 30) ap (n 0))) 34 (upd (f 34) ap (-1 : Int32))) 35 (upd (f 35) ap (-1 : Int32)))) H := hM
        refine lv_aload_n hx hb dX8_apply_138 rfl (lv_at hl 1 rfl) ?_
        refine md_getr hx hb hts hin_wsX80 hown hC hM 36 (by decide) rfl fl_87 dX8_apply_139 ?_
        refine lv_iload hx hb dX8_apply_142 (lv_at hl 0 rfl) ?_
        refine lv_iconst (v := (-1 : Int32)) hx hb dX8_apply_144 (by decide) ?_
        refine md_iast hx hb hC hM hS 36 rfl (j := ap) (by omega) (by decide) dX8_apply_145 (fun H locs hM hS => ?_)
        have hM : mp_P G.1 A (md_M G B h ad (upd n 4 (nI (ap + 1))) (va_up (va_up (va_up (va_up (va_up (va_up (va_up (va_up (va_up (va_up (va_up f 23 (upd (f 23) ap q)) 24 (upd (f 24) ap x0)) 25 (upd (f 25) ap y0)) 26 (upd (f 26) ap x1)) 27 (upd (f 27) ap y1)) 28 (upd (f 28) ap ht)) 29 (upd (f 29) ap us)) 30 (upd (f 30) ap (n 0))) 34 (upd (f 34) ap (-1 : Int32))) 35 (upd (f 35) ap (-1 : Int32))) 36 (upd (f 36) ap (-1 : Int32)))) H := hM
        refine lv_aload_n hx hb dX8_apply_146 rfl (lv_at hl 1 rfl) ?_
        refine md_getr hx hb hts hin_wsX80 hown hC hM 37 (by decide) rfl fl_90 dX8_apply_147 ?_
        refine lv_iload hx hb dX8_apply_150 (lv_at hl 0 rfl) ?_
        refine lv_iconst (v := (-1 : Int32)) hx hb dX8_apply_152 (by decide) ?_
        refine md_iast hx hb hC hM hS 37 rfl (j := ap) (by omega) (by decide) dX8_apply_153 (fun H locs hM hS => ?_)
        have hM : mp_P G.1 A (md_M G B h ad (upd n 4 (nI (ap + 1))) (va_up (va_up (va_up (va_up (va_up (va_up (va_up (va_up (va_up (va_up (va_up (va_up f 23 (upd (f 23) ap q)) 24 (upd (f 24) ap x0)) 25 (upd (f 25) ap y0)) 26 (upd (f 26) ap x1)) 27 (upd (f 27) ap y1)) 28 (upd (f 28) ap ht)) 29 (upd (f 29) ap us)) 30 (upd (f 30) ap (n 0))) 34 (upd (f 34) ap (-1 : Int32))) 35 (upd (f 35) ap (-1 : Int32))) 36 (upd (f 36) ap (-1 : Int32))) 37 (upd (f 37) ap (-1 : Int32)))) H := hM
        refine lv_iload hx hb dX8_apply_154 (lv_at hl 0 rfl) ?_
        exact mp_iret hx hb hr hlocks (Nat.le_of_ble_eq_true rfl) (Nat.le_of_ble_eq_true rfl) hM hS dX8_apply_156 (have q : pB (md_applyOK pl ap q x0 y0 x1 y1 ht us) = true := pB_t ⟨by rw [← hpl]; exact pB_iff.mp c1, pB_iff.mp c2, c3⟩; by rw [q]; exact ⟨rfl, rfl⟩)
      · have c3 := nn_eq (a := ap) (b := 40) (by omega) (by omega) c3
        refine lv_iconst (v := (-1 : Int32)) hx hb dX8_apply_33 (by decide) ?_
        exact mp_iret hx hb hr hlocks (Nat.le_of_ble_eq_true rfl) (Nat.le_of_ble_eq_true rfl) hM hS dX8_apply_34 (have q : pB (md_applyOK pl ap q x0 y0 x1 y1 ht us) = false := pB_f (fun q => q.2.2 c3); by rw [q]; exact ⟨rfl, rfl⟩)
abbrev rmX8_ruleOf : Room := { frames := 4, cells := 0, slots := 0, locals := 112 }
set_option maxHeartbeats 4000000 in
set_option maxRecDepth 100000 in
theorem c_X8_ruleOf (l : Launch) (X : mp_X) (G : mp_G) (A : Nat → Prop) (B : mp_M) (h : Nat) (ad : Nat → Nat) (n : Nat → Int32) (f : Nat → Nat → Int32) (pl : Nat) (co : Nat → Nat) (hpl : n 1 = nI pl) (hpl9 : pl ≤ 12) (hco : ∀ o, o < pl → f 6 o = nI (co o) ∧ 0 < co o ∧ co o ≤ 8) (pn : Nat) (hpn : n 3 = nI pn) (hpn9 : pn ≤ 20) (zmf : Nat → Nat) (hzmf : ∀ o, o < pn → f 17 o = nI (zmf o) ∧ zmf o ≤ 8) (ap : Nat) (hap : n 4 = nI ap) (hap9 : ap ≤ 40) (op : Nat → Nat) (hop : ∀ a, a < ap → f 23 a = nI (op a) ∧ op a < pl ∧ md_in (f 30 a) 0 9999) (htd : md_in (n 0) 0 9999) (a : Nat) (ha : a < ap) : mp_Met l X G A yX8_ruleOf wsX8_ruleOf rmX8_ruleOf ([.ref h, .int (nI a)] : List Value) (md_M G B h ad n f) (fun v M1 => v = some (.int (md_rule n f pn ap zmf co a (op a))) ∧ M1 = md_M G B h ad n f) 0 0 := by
  refine mp_ofW (cc := cX8_ruleOf) (maxL := 2) (ret := (some .int)) (by decide) rfl (Nat.le_of_ble_eq_true rfl) ?_
  intro p e s m below meth c ls hx hb hr hts hown hlocks hnm hml hC hM hS hl
  have hl : lv_has ls 2 [(0, .ref h), (1, .int (nI a))] := hl
  have hown : s.vm.findClass RX8 = some m.cls := hown
  have fl_48 := hts (.fieldLink RX8 48 "PlanningBenchModel" "onPlot" "[I") (List.mem_of_getElem? (i := 1) rfl)
  have hin_wsX80 : ∀ w ∈ wsX80, w ∈ wsX8_ruleOf := fun _ h => List.mem_cons_of_mem _ (List.mem_append_right _ h)
  have fl_51 := hts (.fieldLink RX8 51 "PlanningBenchModel" "x0s" "[I") (List.mem_of_getElem? (i := 2) rfl)
  have fl_54 := hts (.fieldLink RX8 54 "PlanningBenchModel" "y0s" "[I") (List.mem_of_getElem? (i := 3) rfl)
  have fl_57 := hts (.fieldLink RX8 57 "PlanningBenchModel" "x1s" "[I") (List.mem_of_getElem? (i := 4) rfl)
  have fl_60 := hts (.fieldLink RX8 60 "PlanningBenchModel" "y1s" "[I") (List.mem_of_getElem? (i := 5) rfl)
  have fl_63 := hts (.fieldLink RX8 63 "PlanningBenchModel" "heights" "[I") (List.mem_of_getElem? (i := 6) rfl)
  have fl_66 := hts (.fieldLink RX8 66 "PlanningBenchModel" "uses" "[I") (List.mem_of_getElem? (i := 7) rfl)
  have fl_69 := hts (.fieldLink RX8 69 "PlanningBenchModel" "since" "[I") (List.mem_of_getElem? (i := 8) rfl)
  have fl_125 := hts (.fieldLink RX8 125 "PlanningBenchModel" "today" "I") (List.mem_of_getElem? (i := 9) rfl)
  have g0 := hop a ha
  have g1 := hco (op a) g0.2.1
  refine lv_aload_n hx hb dX8_ruleOf_0 rfl (lv_at hl 0 rfl) ?_
  refine lv_aload_n hx hb dX8_ruleOf_1 rfl (lv_at hl 0 rfl) ?_
  refine md_getr hx hb hts hin_wsX80 hown hC hM 23 (by decide) rfl fl_48 dX8_ruleOf_2 ?_
  refine lv_iload_n hx hb dX8_ruleOf_5 rfl (lv_at hl 1 rfl) ?_
  refine md_iald hx hb hC hM 23 rfl (j := a) (by omega) (by decide) dX8_ruleOf_6 ?_
  refine mp_top (nI (op a)) g0.1 ?_
  refine lv_aload_n hx hb dX8_ruleOf_7 rfl (lv_at hl 0 rfl) ?_
  refine md_getr hx hb hts hin_wsX80 hown hC hM 24 (by decide) rfl fl_51 dX8_ruleOf_8 ?_
  refine lv_iload_n hx hb dX8_ruleOf_11 rfl (lv_at hl 1 rfl) ?_
  refine md_iald hx hb hC hM 24 rfl (j := a) (by omega) (by decide) dX8_ruleOf_12 ?_
  refine lv_aload_n hx hb dX8_ruleOf_13 rfl (lv_at hl 0 rfl) ?_
  refine md_getr hx hb hts hin_wsX80 hown hC hM 25 (by decide) rfl fl_54 dX8_ruleOf_14 ?_
  refine lv_iload_n hx hb dX8_ruleOf_17 rfl (lv_at hl 1 rfl) ?_
  refine md_iald hx hb hC hM 25 rfl (j := a) (by omega) (by decide) dX8_ruleOf_18 ?_
  refine lv_aload_n hx hb dX8_ruleOf_19 rfl (lv_at hl 0 rfl) ?_
  refine md_getr hx hb hts hin_wsX80 hown hC hM 26 (by decide) rfl fl_57 dX8_ruleOf_20 ?_
  refine lv_iload_n hx hb dX8_ruleOf_23 rfl (lv_at hl 1 rfl) ?_
  refine md_iald hx hb hC hM 26 rfl (j := a) (by omega) (by decide) dX8_ruleOf_24 ?_
  refine lv_aload_n hx hb dX8_ruleOf_25 rfl (lv_at hl 0 rfl) ?_
  refine md_getr hx hb hts hin_wsX80 hown hC hM 27 (by decide) rfl fl_60 dX8_ruleOf_26 ?_
  refine lv_iload_n hx hb dX8_ruleOf_29 rfl (lv_at hl 1 rfl) ?_
  refine md_iald hx hb hC hM 27 rfl (j := a) (by omega) (by decide) dX8_ruleOf_30 ?_
  refine lv_aload_n hx hb dX8_ruleOf_31 rfl (lv_at hl 0 rfl) ?_
  refine md_getr hx hb hts hin_wsX80 hown hC hM 28 (by decide) rfl fl_63 dX8_ruleOf_32 ?_
  refine lv_iload_n hx hb dX8_ruleOf_35 rfl (lv_at hl 1 rfl) ?_
  refine md_iald hx hb hC hM 28 rfl (j := a) (by omega) (by decide) dX8_ruleOf_36 ?_
  refine lv_aload_n hx hb dX8_ruleOf_37 rfl (lv_at hl 0 rfl) ?_
  refine md_getr hx hb hts hin_wsX80 hown hC hM 29 (by decide) rfl fl_66 dX8_ruleOf_38 ?_
  refine lv_iload_n hx hb dX8_ruleOf_41 rfl (lv_at hl 1 rfl) ?_
  refine md_iald hx hb hC hM 29 rfl (j := a) (by omega) (by decide) dX8_ruleOf_42 ?_
  refine lv_aload_n hx hb dX8_ruleOf_43 rfl (lv_at hl 0 rfl) ?_
  refine md_getr hx hb hts hin_wsX80 hown hC hM 30 (by decide) rfl fl_69 dX8_ruleOf_44 ?_
  refine lv_iload_n hx hb dX8_ruleOf_47 rfl (lv_at hl 1 rfl) ?_
  refine md_iald hx hb hC hM 30 rfl (j := a) (by omega) (by decide) dX8_ruleOf_48 ?_
  refine lv_aload_n hx hb dX8_ruleOf_49 rfl (lv_at hl 0 rfl) ?_
  refine md_geti hx hb hts hin_wsX80 hown hC hM 0 (by decide) rfl fl_125 dX8_ruleOf_50 ?_
  refine mp_calli (va_runV (As := [.int (nI (op a)), .int (f 24 a), .int (f 25 a), .int (f 26 a), .int (f 27 a), .int (f 28 a), .int (f 29 a), .int (f 30 a), .int (n 0)]) (rest := []) ⟨hx, hb, hml, hown, hts⟩ (c_X8_broken l X G A B h ad n f pn hpn hpn9 zmf hzmf ap hap hap9 (op a) (co (op a)) (by omega) (by omega) (by omega) g1.1 (f 24 a) (f 25 a) (f 26 a) (f 27 a) (f 28 a) (f 29 a) (f 30 a) (n 0) g0.2.2 htd) (cwV 9 hts gX8_ruleOf_X8_broken rfl rfl rfl (by decide +kernel) ⟨Nat.le_of_ble_eq_true rfl, Nat.le_of_ble_eq_true rfl⟩) (mp_preV hC hS hM (md_recv hC hM)) rfl rfl hl.1 rfl (lv_room (Nat.le_of_ble_eq_true rfl)) dX8_ruleOf_53 ⟨Nat.le_of_ble_eq_true rfl, Nat.le_of_ble_eq_true rfl⟩) hS (fun H locs hM hS => ?_)
  exact mp_iret hx hb hr hlocks (Nat.le_of_ble_eq_true rfl) (Nat.le_of_ble_eq_true rfl) hM hS dX8_ruleOf_56 (⟨rfl, rfl⟩)
abbrev rmX8_decide : Room := { frames := 5, cells := 0, slots := 0, locals := 133 }
set_option maxHeartbeats 4000000 in
set_option maxRecDepth 100000 in
theorem c_X8_decide (l : Launch) (X : mp_X) (G : mp_G) (A : Nat → Prop) (B : mp_M) (h : Nat) (ad : Nat → Nat) (n : Nat → Int32) (f : Nat → Nat → Int32) (pl : Nat) (co : Nat → Nat) (hpl : n 1 = nI pl) (hpl9 : pl ≤ 12) (hco : ∀ o, o < pl → f 6 o = nI (co o) ∧ 0 < co o ∧ co o ≤ 8) (pn : Nat) (hpn : n 3 = nI pn) (hpn9 : pn ≤ 20) (zmf : Nat → Nat) (hzmf : ∀ o, o < pn → f 17 o = nI (zmf o) ∧ zmf o ≤ 8) (ap : Nat) (hap : n 4 = nI ap) (hap9 : ap ≤ 40) (op : Nat → Nat) (hop : ∀ a, a < ap → f 23 a = nI (op a) ∧ op a < pl ∧ md_in (f 30 a) 0 9999) (htd : md_in (n 0) 0 9999) (q : Int32) : mp_Met l X G A yX8_decide wsX8_decide rmX8_decide ([.ref h, .int q] : List Value) (md_M G B h ad n f) (fun v M1 => v = some (.int (if pB (md_decOK n f ap q) then md_decR (md_rule n f pn ap zmf co q.toNatClampNeg (op q.toNatClampNeg)) (f 33 q.toNatClampNeg) else -1)) ∧ M1 = if pB (md_decOK n f ap q) then md_M G B h ad n (md_decF f q.toNatClampNeg (md_decR (md_rule n f pn ap zmf co q.toNatClampNeg (op q.toNatClampNeg)) (f 33 q.toNatClampNeg)) (n 0)) else md_M G B h ad n f) 0 0 := by
  refine mp_ofW (cc := cX8_decide) (maxL := 3) (ret := (some .int)) (by decide) rfl (Nat.le_of_ble_eq_true rfl) ?_
  intro p e s m below meth c ls hx hb hr hts hown hlocks hnm hml hC hM hS hl
  have hl : lv_has ls 3 [(0, .ref h), (1, .int q)] := hl
  have hown : s.vm.findClass RX8 = some m.cls := hown
  have fl_72 := hts (.fieldLink RX8 72 "PlanningBenchModel" "how" "[I") (List.mem_of_getElem? (i := 1) rfl)
  have hin_wsX80 : ∀ w ∈ wsX80, w ∈ wsX8_decide := fun _ h => List.mem_cons_of_mem _ (List.mem_append_right _ h)
  have fl_125 := hts (.fieldLink RX8 125 "PlanningBenchModel" "today" "I") (List.mem_of_getElem? (i := 2) rfl)
  have fl_69 := hts (.fieldLink RX8 69 "PlanningBenchModel" "since" "[I") (List.mem_of_getElem? (i := 3) rfl)
  have fl_75 := hts (.fieldLink RX8 75 "PlanningBenchModel" "refusedBy" "[I") (List.mem_of_getElem? (i := 5) rfl)
  have fl_81 := hts (.fieldLink RX8 81 "PlanningBenchModel" "decided" "[I") (List.mem_of_getElem? (i := 6) rfl)
  have fl_78 := hts (.fieldLink RX8 78 "PlanningBenchModel" "weight" "[I") (List.mem_of_getElem? (i := 4) rfl)
  refine lv_aload_n hx hb dX8_decide_0 rfl (lv_at hl 0 rfl) ?_
  refine lv_iload_n hx hb dX8_decide_1 rfl (lv_at hl 1 rfl) ?_
  refine mp_calli (va_runV (As := [.int q]) (rest := []) ⟨hx, hb, hml, hown, hts⟩ (c_X8_isApplication l X G A B h ad n f q) (cwV 1 hts gX8_decide_X8_isApplication rfl rfl rfl (by decide +kernel) ⟨Nat.le_of_ble_eq_true rfl, Nat.le_of_ble_eq_true rfl⟩) (mp_preV hC hS hM (md_recv hC hM)) rfl rfl hl.1 rfl (lv_room (Nat.le_of_ble_eq_true rfl)) dX8_decide_2 ⟨Nat.le_of_ble_eq_true rfl, Nat.le_of_ble_eq_true rfl⟩) hS (fun H locs hM hS => ?_)
  refine lv_if_eq (tgt := 33) hx hb dX8_decide_5 (by decide) (fun c1 => ?_) (fun c1 => ?_)
  · have c1 : (pB (md_in q 0 (n 4 - 1))) = false := bI_0.mp c1
    refine lv_iconst (v := (-1 : Int32)) hx hb dX8_decide_33 (by decide) ?_
    exact mp_iret hx hb hr hlocks (Nat.le_of_ble_eq_true rfl) (Nat.le_of_ble_eq_true rfl) hM hS dX8_decide_34 (have z0 : pB (md_decOK n f ap q) = false := pB_f (fun q => pB_not.mp c1 (by rw [hap]; exact q.1)); by rw [z0]; exact ⟨rfl, rfl⟩)
  · have c1 : (pB (md_in q 0 (n 4 - 1))) = true := bI_1.mp c1
    obtain ⟨a, ha, e_a⟩ := md_nat (k := ap) (by omega) (by have z := pB_iff.mp c1; rw [hap] at z; exact z)
    subst e_a
    have ecl : (nI a).toNatClampNeg = a := nI_clamp (by omega)
    refine lv_aload_n hx hb dX8_decide_8 rfl (lv_at hl 0 rfl) ?_
    refine md_getr hx hb hts hin_wsX80 hown hC hM 31 (by decide) rfl fl_72 dX8_decide_9 ?_
    refine lv_iload_n hx hb dX8_decide_12 rfl (lv_at hl 1 rfl) ?_
    refine md_iald hx hb hC hM 31 rfl (j := a) (by omega) (by decide) dX8_decide_13 ?_
    refine lv_if_ne (tgt := 33) hx hb dX8_decide_14 (by decide) (fun c2 => ?_) (fun c2 => ?_)
    · have c2 := c2
      refine lv_iconst (v := (-1 : Int32)) hx hb dX8_decide_33 (by decide) ?_
      exact mp_iret hx hb hr hlocks (Nat.le_of_ble_eq_true rfl) (Nat.le_of_ble_eq_true rfl) hM hS dX8_decide_34 (have z0 : pB (md_decOK n f ap (nI a)) = false := pB_f (fun q => c2 (by have z := q.2.1; rw [ecl] at z; exact z)); by rw [z0]; exact ⟨rfl, rfl⟩)
    · have c2 := c2
      refine lv_aload_n hx hb dX8_decide_17 rfl (lv_at hl 0 rfl) ?_
      refine md_geti hx hb hts hin_wsX80 hown hC hM 0 (by decide) rfl fl_125 dX8_decide_18 ?_
      refine lv_aload_n hx hb dX8_decide_21 rfl (lv_at hl 0 rfl) ?_
      refine md_getr hx hb hts hin_wsX80 hown hC hM 30 (by decide) rfl fl_69 dX8_decide_22 ?_
      refine lv_iload_n hx hb dX8_decide_25 rfl (lv_at hl 1 rfl) ?_
      refine md_iald hx hb hC hM 30 rfl (j := a) (by omega) (by decide) dX8_decide_26 ?_
      refine lv_bipush (v := (31 : Int32)) hx hb dX8_decide_27 (by decide) ?_
      refine lv_iadd hx hb dX8_decide_29 ?_
      refine lv_icmp_ge (tgt := 35) hx hb dX8_decide_30 (by decide) (fun c3 => ?_) (fun c3 => ?_)
      · have c3 := c3
        refine lv_aload_n hx hb dX8_decide_35 rfl (lv_at hl 0 rfl) ?_
        refine lv_iload_n hx hb dX8_decide_36 rfl (lv_at hl 1 rfl) ?_
        refine mp_calli (va_runV (As := [.int (nI a)]) (rest := []) ⟨hx, hb, hml, hown, hts⟩ (c_X8_ruleOf l X G A B h ad n f pl co hpl hpl9 hco pn hpn hpn9 zmf hzmf ap hap hap9 op hop htd a ha) (cwV 1 hts gX8_decide_X8_ruleOf rfl rfl rfl (by decide +kernel) ⟨Nat.le_of_ble_eq_true rfl, Nat.le_of_ble_eq_true rfl⟩) (mp_preV hC hS hM (md_recv hC hM)) rfl rfl hl.1 rfl (lv_room (Nat.le_of_ble_eq_true rfl)) dX8_decide_37 ⟨Nat.le_of_ble_eq_true rfl, Nat.le_of_ble_eq_true rfl⟩) hS (fun H locs hM hS => ?_)
        refine lv_istore_n (lv' := [(2, .int (md_rule n f pn ap zmf co a (op a))), (0, .ref h), (1, .int (nI a))]) hx hb dX8_decide_40 rfl hl (by decide) rfl (fun ls hl => ?_)
        refine lv_iload_n hx hb dX8_decide_41 rfl (lv_at hl 0 rfl) ?_
        refine lv_if_ne (tgt := 59) hx hb dX8_decide_42 (by decide) (fun c4 => ?_) (fun c4 => ?_)
        · have c4 := c4
          refine lv_aload_n hx hb dX8_decide_59 rfl (lv_at hl 1 rfl) ?_
          refine md_getr hx hb hts hin_wsX80 hown hC hM 31 (by decide) rfl fl_72 dX8_decide_60 ?_
          refine lv_iload_n hx hb dX8_decide_63 rfl (lv_at hl 2 rfl) ?_
          refine lv_iload_n hx hb dX8_decide_64 rfl (lv_at hl 0 rfl) ?_
          refine lv_if_ne (tgt := 72) hx hb dX8_decide_65 (by decide) (fun c6 => ?_) (fun c6 => ?_)
          · have c6 := c6
            refine lv_iconst (v := (2 : Int32)) hx hb dX8_decide_72 (by decide) ?_
            refine md_iast hx hb hC hM hS 31 rfl (j := a) (by omega) (by decide) dX8_decide_73 (fun H locs hM hS => ?_)
            refine lv_aload_n hx hb dX8_decide_74 rfl (lv_at hl 1 rfl) ?_
            refine md_getr hx hb hts hin_wsX80 hown hC hM 32 (by decide) rfl fl_75 dX8_decide_75 ?_
            refine lv_iload_n hx hb dX8_decide_78 rfl (lv_at hl 2 rfl) ?_
            refine lv_iload_n hx hb dX8_decide_79 rfl (lv_at hl 0 rfl) ?_
            refine md_iast hx hb hC hM hS 32 rfl (j := a) (by omega) (by decide) dX8_decide_80 (fun H locs hM hS => ?_)
            have hM : mp_P G.1 A (md_M G B h ad n (va_up (va_up f 31 (upd (f 31) a (2 : Int32))) 32 (upd (f 32) a (md_rule n f pn ap zmf co a (op a))))) H := hM
            refine lv_aload_n hx hb dX8_decide_81 rfl (lv_at hl 1 rfl) ?_
            refine md_getr hx hb hts hin_wsX80 hown hC hM 34 (by decide) rfl fl_81 dX8_decide_82 ?_
            refine lv_iload_n hx hb dX8_decide_85 rfl (lv_at hl 2 rfl) ?_
            refine lv_aload_n hx hb dX8_decide_86 rfl (lv_at hl 1 rfl) ?_
            refine md_geti hx hb hts hin_wsX80 hown hC hM 0 (by decide) rfl fl_125 dX8_decide_87 ?_
            refine md_iast hx hb hC hM hS 34 rfl (j := a) (by omega) (by decide) dX8_decide_90 (fun H locs hM hS => ?_)
            have hM : mp_P G.1 A (md_M G B h ad n (va_up (va_up (va_up f 31 (upd (f 31) a (2 : Int32))) 32 (upd (f 32) a (md_rule n f pn ap zmf co a (op a)))) 34 (upd (f 34) a (n 0)))) H := hM
            refine lv_iload_n hx hb dX8_decide_91 rfl (lv_at hl 0 rfl) ?_
            exact mp_iret hx hb hr hlocks (Nat.le_of_ble_eq_true rfl) (Nat.le_of_ble_eq_true rfl) hM hS dX8_decide_92 (have q : pB (md_decOK n f ap (nI a)) = true := pB_t ⟨by rw [← hap]; exact pB_iff.mp c1, by rw [ecl]; exact c2, by rw [ecl]; exact c3⟩; have q2 : md_decR (md_rule n f pn ap zmf co a (op a)) (f 33 a) = md_rule n f pn ap zmf co a (op a) := (by rw [md_decR, pB_f (fun z => c4 z.1)]; rfl); by rw [q, if_pos rfl, if_pos rfl, ecl, q2, md_decF, if_neg c4]; exact ⟨rfl, rfl⟩)
          · have c6 := c6
            exact absurd c6 c4
        · have c4 := c4
          refine lv_aload_n hx hb dX8_decide_45 rfl (lv_at hl 1 rfl) ?_
          refine md_getr hx hb hts hin_wsX80 hown hC hM 33 (by decide) rfl fl_78 dX8_decide_46 ?_
          refine lv_iload_n hx hb dX8_decide_49 rfl (lv_at hl 2 rfl) ?_
          refine md_iald hx hb hC hM 33 rfl (j := a) (by omega) (by decide) dX8_decide_50 ?_
          refine lv_bipush (v := (6 : Int32)) hx hb dX8_decide_51 (by decide) ?_
          refine lv_icmp_lt (tgt := 59) hx hb dX8_decide_53 (by decide) (fun c5 => ?_) (fun c5 => ?_)
          · have c5 := c5
            refine lv_aload_n hx hb dX8_decide_59 rfl (lv_at hl 1 rfl) ?_
            refine md_getr hx hb hts hin_wsX80 hown hC hM 31 (by decide) rfl fl_72 dX8_decide_60 ?_
            refine lv_iload_n hx hb dX8_decide_63 rfl (lv_at hl 2 rfl) ?_
            refine lv_iload_n hx hb dX8_decide_64 rfl (lv_at hl 0 rfl) ?_
            refine lv_if_ne (tgt := 72) hx hb dX8_decide_65 (by decide) (fun c6 => ?_) (fun c6 => ?_)
            · have c6 := c6
              exact absurd c6 (fun z => z c4)
            · have c6 := c6
              refine lv_iconst (v := (1 : Int32)) hx hb dX8_decide_68 (by decide) ?_
              refine lv_goto (tgt := 73) hx hb dX8_decide_69 (by decide) ?_
              refine md_iast hx hb hC hM hS 31 rfl (j := a) (by omega) (by decide) dX8_decide_73 (fun H locs hM hS => ?_)
              refine lv_aload_n hx hb dX8_decide_74 rfl (lv_at hl 1 rfl) ?_
              refine md_getr hx hb hts hin_wsX80 hown hC hM 32 (by decide) rfl fl_75 dX8_decide_75 ?_
              refine lv_iload_n hx hb dX8_decide_78 rfl (lv_at hl 2 rfl) ?_
              refine lv_iload_n hx hb dX8_decide_79 rfl (lv_at hl 0 rfl) ?_
              refine md_iast hx hb hC hM hS 32 rfl (j := a) (by omega) (by decide) dX8_decide_80 (fun H locs hM hS => ?_)
              have hM : mp_P G.1 A (md_M G B h ad n (va_up (va_up f 31 (upd (f 31) a (1 : Int32))) 32 (upd (f 32) a (md_rule n f pn ap zmf co a (op a))))) H := hM
              refine lv_aload_n hx hb dX8_decide_81 rfl (lv_at hl 1 rfl) ?_
              refine md_getr hx hb hts hin_wsX80 hown hC hM 34 (by decide) rfl fl_81 dX8_decide_82 ?_
              refine lv_iload_n hx hb dX8_decide_85 rfl (lv_at hl 2 rfl) ?_
              refine lv_aload_n hx hb dX8_decide_86 rfl (lv_at hl 1 rfl) ?_
              refine md_geti hx hb hts hin_wsX80 hown hC hM 0 (by decide) rfl fl_125 dX8_decide_87 ?_
              refine md_iast hx hb hC hM hS 34 rfl (j := a) (by omega) (by decide) dX8_decide_90 (fun H locs hM hS => ?_)
              have hM : mp_P G.1 A (md_M G B h ad n (va_up (va_up (va_up f 31 (upd (f 31) a (1 : Int32))) 32 (upd (f 32) a (md_rule n f pn ap zmf co a (op a)))) 34 (upd (f 34) a (n 0)))) H := hM
              refine lv_iload_n hx hb dX8_decide_91 rfl (lv_at hl 0 rfl) ?_
              exact mp_iret hx hb hr hlocks (Nat.le_of_ble_eq_true rfl) (Nat.le_of_ble_eq_true rfl) hM hS dX8_decide_92 (have q : pB (md_decOK n f ap (nI a)) = true := pB_t ⟨by rw [← hap]; exact pB_iff.mp c1, by rw [ecl]; exact c2, by rw [ecl]; exact c3⟩; have q2 : md_decR (md_rule n f pn ap zmf co a (op a)) (f 33 a) = md_rule n f pn ap zmf co a (op a) := (by rw [md_decR, pB_f (fun z => absurd c5 (i_nlt.mpr z.2))]; rfl); by rw [q, if_pos rfl, if_pos rfl, ecl, q2, md_decF, if_pos c4]; exact ⟨rfl, rfl⟩)
          · have c5 := c5
            refine lv_bipush (v := (9 : Int32)) hx hb dX8_decide_56 (by decide) ?_
            refine lv_istore_n (lv' := [(2, .int (9 : Int32)), (0, .ref h), (1, .int (nI a))]) hx hb dX8_decide_58 rfl hl (by decide) rfl (fun ls hl => ?_)
            refine lv_aload_n hx hb dX8_decide_59 rfl (lv_at hl 1 rfl) ?_
            refine md_getr hx hb hts hin_wsX80 hown hC hM 31 (by decide) rfl fl_72 dX8_decide_60 ?_
            refine lv_iload_n hx hb dX8_decide_63 rfl (lv_at hl 2 rfl) ?_
            refine lv_iload_n hx hb dX8_decide_64 rfl (lv_at hl 0 rfl) ?_
            refine lv_if_ne (tgt := 72) hx hb dX8_decide_65 (by decide) (fun c6 => ?_) (fun c6 => ?_)
            · have c6 := nn_neq (a := 9) (b := 0) (by omega) (by omega) c6
              refine lv_iconst (v := (2 : Int32)) hx hb dX8_decide_72 (by decide) ?_
              refine md_iast hx hb hC hM hS 31 rfl (j := a) (by omega) (by decide) dX8_decide_73 (fun H locs hM hS => ?_)
              refine lv_aload_n hx hb dX8_decide_74 rfl (lv_at hl 1 rfl) ?_
              refine md_getr hx hb hts hin_wsX80 hown hC hM 32 (by decide) rfl fl_75 dX8_decide_75 ?_
              refine lv_iload_n hx hb dX8_decide_78 rfl (lv_at hl 2 rfl) ?_
              refine lv_iload_n hx hb dX8_decide_79 rfl (lv_at hl 0 rfl) ?_
              refine md_iast hx hb hC hM hS 32 rfl (j := a) (by omega) (by decide) dX8_decide_80 (fun H locs hM hS => ?_)
              have hM : mp_P G.1 A (md_M G B h ad n (va_up (va_up f 31 (upd (f 31) a (2 : Int32))) 32 (upd (f 32) a (9 : Int32)))) H := hM
              refine lv_aload_n hx hb dX8_decide_81 rfl (lv_at hl 1 rfl) ?_
              refine md_getr hx hb hts hin_wsX80 hown hC hM 34 (by decide) rfl fl_81 dX8_decide_82 ?_
              refine lv_iload_n hx hb dX8_decide_85 rfl (lv_at hl 2 rfl) ?_
              refine lv_aload_n hx hb dX8_decide_86 rfl (lv_at hl 1 rfl) ?_
              refine md_geti hx hb hts hin_wsX80 hown hC hM 0 (by decide) rfl fl_125 dX8_decide_87 ?_
              refine md_iast hx hb hC hM hS 34 rfl (j := a) (by omega) (by decide) dX8_decide_90 (fun H locs hM hS => ?_)
              have hM : mp_P G.1 A (md_M G B h ad n (va_up (va_up (va_up f 31 (upd (f 31) a (2 : Int32))) 32 (upd (f 32) a (9 : Int32))) 34 (upd (f 34) a (n 0)))) H := hM
              refine lv_iload_n hx hb dX8_decide_91 rfl (lv_at hl 0 rfl) ?_
              exact mp_iret hx hb hr hlocks (Nat.le_of_ble_eq_true rfl) (Nat.le_of_ble_eq_true rfl) hM hS dX8_decide_92 (have q : pB (md_decOK n f ap (nI a)) = true := pB_t ⟨by rw [← hap]; exact pB_iff.mp c1, by rw [ecl]; exact c2, by rw [ecl]; exact c3⟩; have q2 : md_decR (md_rule n f pn ap zmf co a (op a)) (f 33 a) = 9 := (by rw [md_decR, pB_t ⟨c4, i_nlt.mp c5⟩]; rfl); by rw [q, if_pos rfl, if_pos rfl, ecl, q2, md_decF, if_neg (by decide)]; exact ⟨rfl, rfl⟩)
            · have c6 := nn_eq (a := 9) (b := 0) (by omega) (by omega) c6
              exact absurd c6 (by decide)
      · have c3 := c3
        refine lv_iconst (v := (-1 : Int32)) hx hb dX8_decide_33 (by decide) ?_
        exact mp_iret hx hb hr hlocks (Nat.le_of_ble_eq_true rfl) (Nat.le_of_ble_eq_true rfl) hM hS dX8_decide_34 (have z0 : pB (md_decOK n f ap (nI a)) = false := pB_f (fun q => c3 (by have z := q.2.2; rw [ecl] at z; exact z)); by rw [z0]; exact ⟨rfl, rfl⟩)
abbrev rmX8_build : Room := { frames := 2, cells := 0, slots := 0, locals := 43 }
set_option maxHeartbeats 4000000 in
set_option maxRecDepth 100000 in
theorem c_X8_build (l : Launch) (X : mp_X) (G : mp_G) (A : Nat → Prop) (B : mp_M) (h : Nat) (ad : Nat → Nat) (n : Nat → Int32) (f : Nat → Nat → Int32) (ap : Nat) (hap : n 4 = nI ap) (hap9 : ap ≤ 40) (q : Int32) : mp_Met l X G A yX8_build wsX8_build rmX8_build ([.ref h, .int q] : List Value) (md_M G B h ad n f) (fun v M1 => v = some (.int (md_buildR n f ap q)) ∧ M1 = md_M G B h ad n (md_buildF n f ap q)) 0 0 := by
  refine mp_ofW (cc := cX8_build) (maxL := 3) (ret := (some .int)) (by decide) rfl (Nat.le_of_ble_eq_true rfl) ?_
  intro p e s m below meth c ls hx hb hr hts hown hlocks hnm hml hC hM hS hl
  have hl : lv_has ls 3 [(0, .ref h), (1, .int q)] := hl
  have hown : s.vm.findClass RX8 = some m.cls := hown
  have fl_84 := hts (.fieldLink RX8 84 "PlanningBenchModel" "begun" "[I") (List.mem_of_getElem? (i := 1) rfl)
  have hin_wsX80 : ∀ w ∈ wsX80, w ∈ wsX8_build := fun _ h => List.mem_cons_of_mem _ (List.mem_append_right _ h)
  have fl_125 := hts (.fieldLink RX8 125 "PlanningBenchModel" "today" "I") (List.mem_of_getElem? (i := 2) rfl)
  have fl_72 := hts (.fieldLink RX8 72 "PlanningBenchModel" "how" "[I") (List.mem_of_getElem? (i := 4) rfl)
  have fl_87 := hts (.fieldLink RX8 87 "PlanningBenchModel" "done" "[I") (List.mem_of_getElem? (i := 3) rfl)
  refine lv_aload_n hx hb dX8_build_0 rfl (lv_at hl 0 rfl) ?_
  refine lv_iload_n hx hb dX8_build_1 rfl (lv_at hl 1 rfl) ?_
  refine mp_calli (va_runV (As := [.int q]) (rest := []) ⟨hx, hb, hml, hown, hts⟩ (c_X8_isApplication l X G A B h ad n f q) (cwV 1 hts gX8_build_X8_isApplication rfl rfl rfl (by decide +kernel) ⟨Nat.le_of_ble_eq_true rfl, Nat.le_of_ble_eq_true rfl⟩) (mp_preV hC hS hM (md_recv hC hM)) rfl rfl hl.1 rfl (lv_room (Nat.le_of_ble_eq_true rfl)) dX8_build_2 ⟨Nat.le_of_ble_eq_true rfl, Nat.le_of_ble_eq_true rfl⟩) hS (fun H locs hM hS => ?_)
  refine lv_if_ne (tgt := 10) hx hb dX8_build_5 (by decide) (fun c1 => ?_) (fun c1 => ?_)
  · have c1 : (pB (md_in q 0 (n 4 - 1))) = true := bI_1.mp c1
    obtain ⟨a, ha, e_a⟩ := md_nat (k := ap) (by omega) (by have z := pB_iff.mp c1; rw [hap] at z; exact z)
    subst e_a
    have ecl : (nI a).toNatClampNeg = a := nI_clamp (by omega)
    refine lv_aload_n hx hb dX8_build_10 rfl (lv_at hl 0 rfl) ?_
    refine lv_iload_n hx hb dX8_build_11 rfl (lv_at hl 1 rfl) ?_
    refine mp_calli (va_runV (As := [.int (nI a)]) (rest := []) ⟨hx, hb, hml, hown, hts⟩ (c_X8_howNow l X G A B h ad n f a (by omega)) (cwV 1 hts gX8_build_X8_howNow rfl rfl rfl (by decide +kernel) ⟨Nat.le_of_ble_eq_true rfl, Nat.le_of_ble_eq_true rfl⟩) (mp_preV hC hS hM (md_recv hC hM)) rfl rfl hl.1 rfl (lv_room (Nat.le_of_ble_eq_true rfl)) dX8_build_12 ⟨Nat.le_of_ble_eq_true rfl, Nat.le_of_ble_eq_true rfl⟩) hS (fun H locs hM hS => ?_)
    refine lv_istore_n (lv' := [(2, .int (md_how n f a)), (0, .ref h), (1, .int (nI a))]) hx hb dX8_build_15 rfl hl (by decide) rfl (fun ls hl => ?_)
    refine lv_iload_n hx hb dX8_build_16 rfl (lv_at hl 0 rfl) ?_
    refine lv_iconst (v := (1 : Int32)) hx hb dX8_build_17 (by decide) ?_
    refine lv_icmp_eq (tgt := 28) hx hb dX8_build_18 (by decide) (fun c2 => ?_) (fun c2 => ?_)
    · have c2 := c2
      refine lv_iload_n hx hb dX8_build_28 rfl (lv_at hl 0 rfl) ?_
      refine lv_iconst (v := (1 : Int32)) hx hb dX8_build_29 (by decide) ?_
      refine lv_icmp_ne (tgt := 46) hx hb dX8_build_30 (by decide) (fun c_1 => ?_) (fun c_1 => ?_)
      · have c_1 := c_1
        exact absurd c_1 (fun z => z c2)
      · have c_1 := c_1
        refine lv_aload_n hx hb dX8_build_33 rfl (lv_at hl 1 rfl) ?_
        refine md_getr hx hb hts hin_wsX80 hown hC hM 35 (by decide) rfl fl_84 dX8_build_34 ?_
        refine lv_iload_n hx hb dX8_build_37 rfl (lv_at hl 2 rfl) ?_
        refine lv_aload_n hx hb dX8_build_38 rfl (lv_at hl 1 rfl) ?_
        refine md_geti hx hb hts hin_wsX80 hown hC hM 0 (by decide) rfl fl_125 dX8_build_39 ?_
        refine md_iast hx hb hC hM hS 35 rfl (j := a) (by omega) (by decide) dX8_build_42 (fun H locs hM hS => ?_)
        refine lv_goto (tgt := 56) hx hb dX8_build_43 (by decide) ?_
        refine lv_aload_n hx hb dX8_build_56 rfl (lv_at hl 1 rfl) ?_
        refine md_getr hx hb hts hin_wsX80 hown hC hM 31 (by decide) rfl fl_72 dX8_build_57 ?_
        refine lv_iload_n hx hb dX8_build_60 rfl (lv_at hl 2 rfl) ?_
        refine lv_iload_n hx hb dX8_build_61 rfl (lv_at hl 0 rfl) ?_
        refine lv_iconst (v := (1 : Int32)) hx hb dX8_build_62 (by decide) ?_
        refine lv_icmp_ne (tgt := 70) hx hb dX8_build_63 (by decide) (fun c_2 => ?_) (fun c_2 => ?_)
        · have c_2 := c_2
          exact absurd c_2 (fun z => z c2)
        · have c_2 := c_2
          refine lv_iconst (v := (3 : Int32)) hx hb dX8_build_66 (by decide) ?_
          refine lv_goto (tgt := 71) hx hb dX8_build_67 (by decide) ?_
          refine md_iast hx hb hC hM hS 31 rfl (j := a) (by omega) (by decide) dX8_build_71 (fun H locs hM hS => ?_)
          have hM : mp_P G.1 A (md_M G B h ad n (va_up (va_up f 35 (upd (f 35) a (n 0))) 31 (upd (f 31) a (3 : Int32)))) H := hM
          refine lv_aload_n hx hb dX8_build_72 rfl (lv_at hl 1 rfl) ?_
          refine md_getr hx hb hts hin_wsX80 hown hC hM 31 (by decide) rfl fl_72 dX8_build_73 ?_
          refine lv_iload_n hx hb dX8_build_76 rfl (lv_at hl 2 rfl) ?_
          refine md_iald hx hb hC hM 31 rfl (j := a) (by omega) (by decide) dX8_build_77 ?_
          refine mp_top (3 : Int32) (pk_us) ?_
          exact mp_iret hx hb hr hlocks (Nat.le_of_ble_eq_true rfl) (Nat.le_of_ble_eq_true rfl) hM hS dX8_build_78 (have q : pB (md_appOK ap (nI a)) = true := pB_t (by rw [md_appOK, ← hap]; exact pB_iff.mp c1); by simp only [md_buildR, md_buildF, q, if_true, ecl, if_pos c2]; refine ⟨?_, ?_⟩ <;> first | rfl | trivial)
    · have c2 := c2
      refine lv_iload_n hx hb dX8_build_21 rfl (lv_at hl 0 rfl) ?_
      refine lv_iconst (v := (3 : Int32)) hx hb dX8_build_22 (by decide) ?_
      refine lv_icmp_eq (tgt := 28) hx hb dX8_build_23 (by decide) (fun c3 => ?_) (fun c3 => ?_)
      · have c3 := c3
        refine lv_iload_n hx hb dX8_build_28 rfl (lv_at hl 0 rfl) ?_
        refine lv_iconst (v := (1 : Int32)) hx hb dX8_build_29 (by decide) ?_
        refine lv_icmp_ne (tgt := 46) hx hb dX8_build_30 (by decide) (fun c_3 => ?_) (fun c_3 => ?_)
        · have c_3 := c_3
          refine lv_aload_n hx hb dX8_build_46 rfl (lv_at hl 1 rfl) ?_
          refine md_getr hx hb hts hin_wsX80 hown hC hM 36 (by decide) rfl fl_87 dX8_build_47 ?_
          refine lv_iload_n hx hb dX8_build_50 rfl (lv_at hl 2 rfl) ?_
          refine lv_aload_n hx hb dX8_build_51 rfl (lv_at hl 1 rfl) ?_
          refine md_geti hx hb hts hin_wsX80 hown hC hM 0 (by decide) rfl fl_125 dX8_build_52 ?_
          refine md_iast hx hb hC hM hS 36 rfl (j := a) (by omega) (by decide) dX8_build_55 (fun H locs hM hS => ?_)
          refine lv_aload_n hx hb dX8_build_56 rfl (lv_at hl 1 rfl) ?_
          refine md_getr hx hb hts hin_wsX80 hown hC hM 31 (by decide) rfl fl_72 dX8_build_57 ?_
          refine lv_iload_n hx hb dX8_build_60 rfl (lv_at hl 2 rfl) ?_
          refine lv_iload_n hx hb dX8_build_61 rfl (lv_at hl 0 rfl) ?_
          refine lv_iconst (v := (1 : Int32)) hx hb dX8_build_62 (by decide) ?_
          refine lv_icmp_ne (tgt := 70) hx hb dX8_build_63 (by decide) (fun c_4 => ?_) (fun c_4 => ?_)
          · have c_4 := c_4
            refine lv_iconst (v := (4 : Int32)) hx hb dX8_build_70 (by decide) ?_
            refine md_iast hx hb hC hM hS 31 rfl (j := a) (by omega) (by decide) dX8_build_71 (fun H locs hM hS => ?_)
            have hM : mp_P G.1 A (md_M G B h ad n (va_up (va_up f 36 (upd (f 36) a (n 0))) 31 (upd (f 31) a (4 : Int32)))) H := hM
            refine lv_aload_n hx hb dX8_build_72 rfl (lv_at hl 1 rfl) ?_
            refine md_getr hx hb hts hin_wsX80 hown hC hM 31 (by decide) rfl fl_72 dX8_build_73 ?_
            refine lv_iload_n hx hb dX8_build_76 rfl (lv_at hl 2 rfl) ?_
            refine md_iald hx hb hC hM 31 rfl (j := a) (by omega) (by decide) dX8_build_77 ?_
            refine mp_top (4 : Int32) (pk_us) ?_
            exact mp_iret hx hb hr hlocks (Nat.le_of_ble_eq_true rfl) (Nat.le_of_ble_eq_true rfl) hM hS dX8_build_78 (have q : pB (md_appOK ap (nI a)) = true := pB_t (by rw [md_appOK, ← hap]; exact pB_iff.mp c1); by simp only [md_buildR, md_buildF, q, if_true, ecl, if_neg c2, if_pos c3]; refine ⟨?_, ?_⟩ <;> first | rfl | trivial)
          · have c_4 := c_4
            exact absurd c_4 c2
        · have c_3 := c_3
          exact absurd c_3 c2
      · have c3 := c3
        refine lv_iconst (v := (-1 : Int32)) hx hb dX8_build_26 (by decide) ?_
        exact mp_iret hx hb hr hlocks (Nat.le_of_ble_eq_true rfl) (Nat.le_of_ble_eq_true rfl) hM hS dX8_build_27 (have q : pB (md_appOK ap (nI a)) = true := pB_t (by rw [md_appOK, ← hap]; exact pB_iff.mp c1); by simp only [md_buildR, md_buildF, q, if_true, ecl, if_neg c2, if_neg c3]; refine ⟨?_, ?_⟩ <;> first | rfl | trivial)
  · have c1 : (pB (md_in q 0 (n 4 - 1))) = false := bI_0.mp c1
    refine lv_iconst (v := (-1 : Int32)) hx hb dX8_build_8 (by decide) ?_
    exact mp_iret hx hb hr hlocks (Nat.le_of_ble_eq_true rfl) (Nat.le_of_ble_eq_true rfl) hM hS dX8_build_9 (have z0 : pB (md_appOK ap q) = false := pB_f (fun z => pB_not.mp c1 (by rw [hap]; exact z)); by simp only [md_buildR, md_buildF, z0]; exact ⟨rfl, rfl⟩)
abbrev rmX8_appeal : Room := { frames := 5, cells := 0, slots := 0, locals := 133 }
set_option maxHeartbeats 4000000 in
set_option maxRecDepth 100000 in
theorem c_X8_appeal (l : Launch) (X : mp_X) (G : mp_G) (A : Nat → Prop) (B : mp_M) (h : Nat) (ad : Nat → Nat) (n : Nat → Int32) (f : Nat → Nat → Int32) (pl : Nat) (co : Nat → Nat) (hpl : n 1 = nI pl) (hpl9 : pl ≤ 12) (hco : ∀ o, o < pl → f 6 o = nI (co o) ∧ 0 < co o ∧ co o ≤ 8) (pn : Nat) (hpn : n 3 = nI pn) (hpn9 : pn ≤ 20) (zmf : Nat → Nat) (hzmf : ∀ o, o < pn → f 17 o = nI (zmf o) ∧ zmf o ≤ 8) (ap : Nat) (hap : n 4 = nI ap) (hap9 : ap ≤ 40) (op : Nat → Nat) (hop : ∀ a, a < ap → f 23 a = nI (op a) ∧ op a < pl ∧ md_in (f 30 a) 0 9999) (htd : md_in (n 0) 0 9999) (q : Int32) : mp_Met l X G A yX8_appeal wsX8_appeal rmX8_appeal ([.ref h, .int q] : List Value) (md_M G B h ad n f) (fun v M1 => v = some (.int (if pB (md_aplOK n f ap q) then md_rule n f pn ap zmf co q.toNatClampNeg (op q.toNatClampNeg) else -1)) ∧ M1 = if pB (md_aplOK n f ap q) then md_M G B h ad n (md_aplF f q.toNatClampNeg (md_rule n f pn ap zmf co q.toNatClampNeg (op q.toNatClampNeg)) (n 0)) else md_M G B h ad n f) 0 0 := by
  refine mp_ofW (cc := cX8_appeal) (maxL := 3) (ret := (some .int)) (by decide) rfl (Nat.le_of_ble_eq_true rfl) ?_
  intro p e s m below meth c ls hx hb hr hts hown hlocks hnm hml hC hM hS hl
  have hl : lv_has ls 3 [(0, .ref h), (1, .int q)] := hl
  have hown : s.vm.findClass RX8 = some m.cls := hown
  have fl_72 := hts (.fieldLink RX8 72 "PlanningBenchModel" "how" "[I") (List.mem_of_getElem? (i := 1) rfl)
  have hin_wsX80 : ∀ w ∈ wsX80, w ∈ wsX8_appeal := fun _ h => List.mem_cons_of_mem _ (List.mem_append_right _ h)
  have fl_96 := hts (.fieldLink RX8 96 "PlanningBenchModel" "isAppealed" "[Z") (List.mem_of_getElem? (i := 2) rfl)
  have fl_125 := hts (.fieldLink RX8 125 "PlanningBenchModel" "today" "I") (List.mem_of_getElem? (i := 3) rfl)
  have fl_81 := hts (.fieldLink RX8 81 "PlanningBenchModel" "decided" "[I") (List.mem_of_getElem? (i := 4) rfl)
  refine lv_aload_n hx hb dX8_appeal_0 rfl (lv_at hl 0 rfl) ?_
  refine lv_iload_n hx hb dX8_appeal_1 rfl (lv_at hl 1 rfl) ?_
  refine mp_calli (va_runV (As := [.int q]) (rest := []) ⟨hx, hb, hml, hown, hts⟩ (c_X8_isApplication l X G A B h ad n f q) (cwV 1 hts gX8_appeal_X8_isApplication rfl rfl rfl (by decide +kernel) ⟨Nat.le_of_ble_eq_true rfl, Nat.le_of_ble_eq_true rfl⟩) (mp_preV hC hS hM (md_recv hC hM)) rfl rfl hl.1 rfl (lv_room (Nat.le_of_ble_eq_true rfl)) dX8_appeal_2 ⟨Nat.le_of_ble_eq_true rfl, Nat.le_of_ble_eq_true rfl⟩) hS (fun H locs hM hS => ?_)
  refine lv_if_eq (tgt := 43) hx hb dX8_appeal_5 (by decide) (fun c1 => ?_) (fun c1 => ?_)
  · have c1 : (pB (md_in q 0 (n 4 - 1))) = false := bI_0.mp c1
    refine lv_iconst (v := (-1 : Int32)) hx hb dX8_appeal_43 (by decide) ?_
    exact mp_iret hx hb hr hlocks (Nat.le_of_ble_eq_true rfl) (Nat.le_of_ble_eq_true rfl) hM hS dX8_appeal_44 (have z0 : pB (md_aplOK n f ap q) = false := pB_f (fun q => pB_not.mp c1 (by rw [hap]; exact q.1)); by rw [z0]; exact ⟨rfl, rfl⟩)
  · have c1 : (pB (md_in q 0 (n 4 - 1))) = true := bI_1.mp c1
    obtain ⟨a, ha, e_a⟩ := md_nat (k := ap) (by omega) (by have z := pB_iff.mp c1; rw [hap] at z; exact z)
    subst e_a
    have ecl : (nI a).toNatClampNeg = a := nI_clamp (by omega)
    refine lv_aload_n hx hb dX8_appeal_8 rfl (lv_at hl 0 rfl) ?_
    refine md_getr hx hb hts hin_wsX80 hown hC hM 31 (by decide) rfl fl_72 dX8_appeal_9 ?_
    refine lv_iload_n hx hb dX8_appeal_12 rfl (lv_at hl 1 rfl) ?_
    refine md_iald hx hb hC hM 31 rfl (j := a) (by omega) (by decide) dX8_appeal_13 ?_
    refine lv_iconst (v := (2 : Int32)) hx hb dX8_appeal_14 (by decide) ?_
    refine lv_icmp_ne (tgt := 43) hx hb dX8_appeal_15 (by decide) (fun c2 => ?_) (fun c2 => ?_)
    · have c2 := c2
      refine lv_iconst (v := (-1 : Int32)) hx hb dX8_appeal_43 (by decide) ?_
      exact mp_iret hx hb hr hlocks (Nat.le_of_ble_eq_true rfl) (Nat.le_of_ble_eq_true rfl) hM hS dX8_appeal_44 (have z0 : pB (md_aplOK n f ap (nI a)) = false := pB_f (fun q => c2 (by have z := q.2.1; rw [ecl] at z; exact z)); by rw [z0]; exact ⟨rfl, rfl⟩)
    · have c2 := c2
      refine lv_aload_n hx hb dX8_appeal_18 rfl (lv_at hl 0 rfl) ?_
      refine md_getr hx hb hts hin_wsX80 hown hC hM 39 (by decide) rfl fl_96 dX8_appeal_19 ?_
      refine lv_iload_n hx hb dX8_appeal_22 rfl (lv_at hl 1 rfl) ?_
      refine md_zald hx hb hC hM 39 rfl (j := a) (by omega) (by decide) dX8_appeal_23 ?_
      refine lv_if_ne (tgt := 43) hx hb dX8_appeal_24 (by decide) (fun c3 => ?_) (fun c3 => ?_)
      · have c3 := c3
        refine lv_iconst (v := (-1 : Int32)) hx hb dX8_appeal_43 (by decide) ?_
        exact mp_iret hx hb hr hlocks (Nat.le_of_ble_eq_true rfl) (Nat.le_of_ble_eq_true rfl) hM hS dX8_appeal_44 (have z0 : pB (md_aplOK n f ap (nI a)) = false := pB_f (fun q => c3 (by have z := q.2.2.1; rw [ecl] at z; exact z)); by rw [z0]; exact ⟨rfl, rfl⟩)
      · have c3 := c3
        refine lv_aload_n hx hb dX8_appeal_27 rfl (lv_at hl 0 rfl) ?_
        refine md_geti hx hb hts hin_wsX80 hown hC hM 0 (by decide) rfl fl_125 dX8_appeal_28 ?_
        refine lv_aload_n hx hb dX8_appeal_31 rfl (lv_at hl 0 rfl) ?_
        refine md_getr hx hb hts hin_wsX80 hown hC hM 34 (by decide) rfl fl_81 dX8_appeal_32 ?_
        refine lv_iload_n hx hb dX8_appeal_35 rfl (lv_at hl 1 rfl) ?_
        refine md_iald hx hb hC hM 34 rfl (j := a) (by omega) (by decide) dX8_appeal_36 ?_
        refine lv_bipush (v := (60 : Int32)) hx hb dX8_appeal_37 (by decide) ?_
        refine lv_iadd hx hb dX8_appeal_39 ?_
        refine lv_icmp_le (tgt := 45) hx hb dX8_appeal_40 (by decide) (fun c4 => ?_) (fun c4 => ?_)
        · have c4 := c4
          refine lv_aload_n hx hb dX8_appeal_45 rfl (lv_at hl 0 rfl) ?_
          refine md_getr hx hb hts hin_wsX80 hown hC hM 39 (by decide) rfl fl_96 dX8_appeal_46 ?_
          refine lv_iload_n hx hb dX8_appeal_49 rfl (lv_at hl 1 rfl) ?_
          refine lv_iconst (v := (1 : Int32)) hx hb dX8_appeal_50 (by decide) ?_
          refine md_zast hx hb hC hM hS 39 rfl (j := a) (by omega) (by decide) dX8_appeal_51 (fun H locs hM hS => ?_)
          have hM : mp_P G.1 A (md_M G B h ad n (va_up f 39 (upd (f 39) a (1 : Int32)))) H := hM
          refine lv_aload_n hx hb dX8_appeal_52 rfl (lv_at hl 0 rfl) ?_
          refine lv_iload_n hx hb dX8_appeal_53 rfl (lv_at hl 1 rfl) ?_
          refine mp_calli (va_runV (As := [.int (nI a)]) (rest := []) ⟨hx, hb, hml, hown, hts⟩ (c_X8_ruleOf l X G A B h ad n (va_up f 39 (upd (f 39) a (1 : Int32))) pl co hpl hpl9 hco pn hpn hpn9 zmf hzmf ap hap hap9 op hop htd a ha) (cwV 1 hts gX8_appeal_X8_ruleOf rfl rfl rfl (by decide +kernel) ⟨Nat.le_of_ble_eq_true rfl, Nat.le_of_ble_eq_true rfl⟩) (mp_preV hC hS hM (md_recv hC hM)) rfl rfl hl.1 rfl (lv_room (Nat.le_of_ble_eq_true rfl)) dX8_appeal_54 ⟨Nat.le_of_ble_eq_true rfl, Nat.le_of_ble_eq_true rfl⟩) hS (fun H locs hM hS => ?_)
          refine mp_top (md_rule n f pn ap zmf co a (op a)) (md_broken_39 _ pn ap zmf (op a) (co (op a)) _ _ _ _ _ _ _ _) ?_
          refine lv_istore_n (lv' := [(2, .int (md_rule n f pn ap zmf co a (op a))), (0, .ref h), (1, .int (nI a))]) hx hb dX8_appeal_57 rfl hl (by decide) rfl (fun ls hl => ?_)
          refine lv_iload_n hx hb dX8_appeal_58 rfl (lv_at hl 0 rfl) ?_
          refine lv_if_eq (tgt := 64) hx hb dX8_appeal_59 (by decide) (fun c5 => ?_) (fun c5 => ?_)
          · have c5 := c5
            refine lv_aload_n hx hb dX8_appeal_64 rfl (lv_at hl 1 rfl) ?_
            refine md_getr hx hb hts hin_wsX80 hown hC hM 31 (by decide) rfl fl_72 dX8_appeal_65 ?_
            refine lv_iload_n hx hb dX8_appeal_68 rfl (lv_at hl 2 rfl) ?_
            refine lv_iconst (v := (1 : Int32)) hx hb dX8_appeal_69 (by decide) ?_
            refine md_iast hx hb hC hM hS 31 rfl (j := a) (by omega) (by decide) dX8_appeal_70 (fun H locs hM hS => ?_)
            have hM : mp_P G.1 A (md_M G B h ad n (va_up (va_up f 39 (upd (f 39) a (1 : Int32))) 31 (upd (f 31) a (1 : Int32)))) H := hM
            refine lv_aload_n hx hb dX8_appeal_71 rfl (lv_at hl 1 rfl) ?_
            refine md_getr hx hb hts hin_wsX80 hown hC hM 34 (by decide) rfl fl_81 dX8_appeal_72 ?_
            refine lv_iload_n hx hb dX8_appeal_75 rfl (lv_at hl 2 rfl) ?_
            refine lv_aload_n hx hb dX8_appeal_76 rfl (lv_at hl 1 rfl) ?_
            refine md_geti hx hb hts hin_wsX80 hown hC hM 0 (by decide) rfl fl_125 dX8_appeal_77 ?_
            refine md_iast hx hb hC hM hS 34 rfl (j := a) (by omega) (by decide) dX8_appeal_80 (fun H locs hM hS => ?_)
            have hM : mp_P G.1 A (md_M G B h ad n (va_up (va_up (va_up f 39 (upd (f 39) a (1 : Int32))) 31 (upd (f 31) a (1 : Int32))) 34 (upd (f 34) a (n 0)))) H := hM
            refine lv_iconst (v := (0 : Int32)) hx hb dX8_appeal_81 (by decide) ?_
            exact mp_iret hx hb hr hlocks (Nat.le_of_ble_eq_true rfl) (Nat.le_of_ble_eq_true rfl) hM hS dX8_appeal_82 (have q : pB (md_aplOK n f ap (nI a)) = true := pB_t ⟨by rw [← hap]; exact pB_iff.mp c1, by rw [ecl]; exact c2, by rw [ecl]; exact c3, by rw [ecl]; exact c4⟩; by rw [q, if_pos rfl, if_pos rfl, ecl, md_aplF, if_pos c5]; exact ⟨by rw [c5], rfl⟩)
          · have c5 := c5
            refine lv_iload_n hx hb dX8_appeal_62 rfl (lv_at hl 0 rfl) ?_
            exact mp_iret hx hb hr hlocks (Nat.le_of_ble_eq_true rfl) (Nat.le_of_ble_eq_true rfl) hM hS dX8_appeal_63 (have q : pB (md_aplOK n f ap (nI a)) = true := pB_t ⟨by rw [← hap]; exact pB_iff.mp c1, by rw [ecl]; exact c2, by rw [ecl]; exact c3, by rw [ecl]; exact c4⟩; by rw [q, if_pos rfl, if_pos rfl, ecl, md_aplF, if_neg c5]; exact ⟨rfl, rfl⟩)
        · have c4 := c4
          refine lv_iconst (v := (-1 : Int32)) hx hb dX8_appeal_43 (by decide) ?_
          exact mp_iret hx hb hr hlocks (Nat.le_of_ble_eq_true rfl) (Nat.le_of_ble_eq_true rfl) hM hS dX8_appeal_44 (have z0 : pB (md_aplOK n f ap (nI a)) = false := pB_f (fun q => c4 (by have z := q.2.2.2; rw [ecl] at z; exact z)); by rw [z0]; exact ⟨rfl, rfl⟩)
abbrev rmX8_clash : Room := { frames := 2, cells := 0, slots := 0, locals := 43 }
set_option maxHeartbeats 4000000 in
set_option maxRecDepth 100000 in
theorem c_X8_clash (l : Launch) (X : mp_X) (G : mp_G) (A : Nat → Prop) (B : mp_M) (h : Nat) (ad : Nat → Nat) (n : Nat → Int32) (f : Nat → Nat → Int32) (ap : Nat) (hap : n 4 = nI ap) (hap9 : ap ≤ 40) (q : Int32) : mp_Met l X G A yX8_clash wsX8_clash rmX8_clash ([.ref h, .int q] : List Value) (md_M G B h ad n f) (fun v M1 => v = some (.int (md_clash n f ap q)) ∧ M1 = md_M G B h ad n f) 0 0 := by
  refine mp_ofW (cc := cX8_clash) (maxL := 4) (ret := (some .int)) (by decide) rfl (Nat.le_of_ble_eq_true rfl) ?_
  intro p e s m below meth c ls hx hb hr hts hown hlocks hnm hml hC hM hS hl
  have hl : lv_has ls 4 [(0, .ref h), (1, .int q)] := hl
  have hown : s.vm.findClass RX8 = some m.cls := hown
  have fl_122 := hts (.fieldLink RX8 122 "PlanningBenchModel" "applications" "I") (List.mem_of_getElem? (i := 1) rfl)
  have hin_wsX80 : ∀ w ∈ wsX80, w ∈ wsX8_clash := fun _ h => List.mem_cons_of_mem _ (List.mem_append_right _ h)
  have fl_125 := hts (.fieldLink RX8 125 "PlanningBenchModel" "today" "I") (List.mem_of_getElem? (i := 2) rfl)
  have fl_51 := hts (.fieldLink RX8 51 "PlanningBenchModel" "x0s" "[I") (List.mem_of_getElem? (i := 3) rfl)
  have fl_54 := hts (.fieldLink RX8 54 "PlanningBenchModel" "y0s" "[I") (List.mem_of_getElem? (i := 4) rfl)
  have fl_57 := hts (.fieldLink RX8 57 "PlanningBenchModel" "x1s" "[I") (List.mem_of_getElem? (i := 5) rfl)
  have fl_60 := hts (.fieldLink RX8 60 "PlanningBenchModel" "y1s" "[I") (List.mem_of_getElem? (i := 6) rfl)
  refine lv_aload_n hx hb dX8_clash_0 rfl (lv_at hl 0 rfl) ?_
  refine lv_iload_n hx hb dX8_clash_1 rfl (lv_at hl 1 rfl) ?_
  refine mp_calli (va_runV (As := [.int q]) (rest := []) ⟨hx, hb, hml, hown, hts⟩ (c_X8_isApplication l X G A B h ad n f q) (cwV 1 hts gX8_clash_X8_isApplication rfl rfl rfl (by decide +kernel) ⟨Nat.le_of_ble_eq_true rfl, Nat.le_of_ble_eq_true rfl⟩) (mp_preV hC hS hM (md_recv hC hM)) rfl rfl hl.1 rfl (lv_room (Nat.le_of_ble_eq_true rfl)) dX8_clash_2 ⟨Nat.le_of_ble_eq_true rfl, Nat.le_of_ble_eq_true rfl⟩) hS (fun H locs hM hS => ?_)
  refine lv_if_ne (tgt := 10) hx hb dX8_clash_5 (by decide) (fun c1 => ?_) (fun c1 => ?_)
  · have c1 : (pB (md_in q 0 (n 4 - 1))) = true := bI_1.mp c1
    obtain ⟨b0, hb0, e_b0⟩ := md_nat (k := ap) (by omega) (by have z := pB_iff.mp c1; rw [hap] at z; exact z)
    subst e_b0
    have ecl : (nI b0).toNatClampNeg = b0 := nI_clamp (by omega)
    refine lv_iconst (v := (0 : Int32)) hx hb dX8_clash_10 (by decide) ?_
    refine lv_istore_n (lv' := [(2, .int (0 : Int32)), (0, .ref h), (1, .int (nI b0))]) hx hb dX8_clash_11 rfl hl (by decide) rfl (fun ls hl => ?_)
    refine lv_iconst (v := (0 : Int32)) hx hb dX8_clash_12 (by decide) ?_
    refine lv_istore_n (lv' := [(3, .int (0 : Int32)), (2, .int (0 : Int32)), (0, .ref h), (1, .int (nI b0))]) hx hb dX8_clash_13 rfl hl (by decide) rfl (fun ls hl => ?_)
    have LP14 : ∀ (kk : Nat) (a : Nat) (ls : Array Slot) (H : Heap) (locs : List Loc), ap - a < kk → a ≤ ap → mp_P G.1 A (md_M G B h ad n f) H → va_S A s.heap H locs → lv_has ls 4 [(0, .ref h), (1, .int (nI b0)), (2, .int (cntI (md_clashP n f b0) a)), (3, .int (nI a))] → W p l e rmX8_clash s m ([.ref h, .int (nI b0)] : List Value).toArray below meth c H locs 0 0 (MQ below (mp_Q G.1 A (fun v M1 => v = some (.int (md_clash n f ap (nI b0))) ∧ M1 = md_M G B h ad n f)) ([.ref h, .int (nI b0)] : List Value).toArray s 0 0 A) (F0 m 14 ls []) := by
      intro kk
      induction kk with
      | zero => intro a ls H locs hk; exact absurd hk (Nat.not_lt_zero _)
      | succ kk ih =>
        intro a ls H locs hk ha hM hS hl
        refine lv_iload_n hx hb dX8_clash_14 rfl (lv_at hl 3 rfl) ?_
        refine lv_aload_n hx hb dX8_clash_15 rfl (lv_at hl 0 rfl) ?_
        refine md_geti hx hb hts hin_wsX80 hown hC hM 4 (by decide) rfl fl_122 dX8_clash_16 ?_
        refine mp_top (nI ap) hap ?_
        refine lv_icmp_ge (tgt := 89) hx hb dX8_clash_19 (by decide) (fun hlt => ?_) (fun hlt => ?_)
        · have hlt := nn_le (a := ap) (b := a) (by omega) (by omega) hlt
          refine lv_iload_n hx hb dX8_clash_89 rfl (lv_at hl 2 rfl) ?_
          exact mp_iret hx hb hr hlocks (Nat.le_of_ble_eq_true rfl) (Nat.le_of_ble_eq_true rfl) hM hS dX8_clash_90 (⟨by rw [md_clash, pB_t (show md_appOK ap (nI b0) by rw [md_appOK, ← hap]; exact pB_iff.mp c1), if_pos rfl, ecl, show a = ap by omega], rfl⟩)
        · have hlt := nn_nle (a := ap) (b := a) (by omega) (by omega) hlt
          refine lv_iload_n hx hb dX8_clash_22 rfl (lv_at hl 2 rfl) ?_
          refine lv_iload_n hx hb dX8_clash_23 rfl (lv_at hl 3 rfl) ?_
          refine lv_iload_n hx hb dX8_clash_24 rfl (lv_at hl 1 rfl) ?_
          refine lv_icmp_eq (tgt := 80) hx hb dX8_clash_25 (by decide) (fun c2 => ?_) (fun c2 => ?_)
          · have c2 := nn_eq (a := a) (b := b0) (by omega) (by omega) c2
            refine lv_iconst (v := (0 : Int32)) hx hb dX8_clash_80 (by decide) ?_
            refine lv_iadd hx hb dX8_clash_81 ?_
            refine lv_istore_n (lv' := [(2, .int ((cntI (md_clashP n f b0) a) + (0 : Int32))), (0, .ref h), (1, .int (nI b0)), (3, .int (nI a))]) hx hb dX8_clash_82 rfl hl (by decide) rfl (fun ls hl => ?_)
            refine lv_iinc (v := nI (a + 1)) (lv' := [(3, .int (nI (a + 1))), (2, .int ((cntI (md_clashP n f b0) a) + (0 : Int32))), (0, .ref h), (1, .int (nI b0))]) hx hb dX8_clash_83 hl (k := 3) rfl (nI_1 a) (by decide) rfl (fun ls hl => ?_)
            refine lv_goto (tgt := 14) hx hb dX8_clash_86 (by decide) ?_
            exact ih (a + 1) ls _ _ (by omega) (by omega) hM hS (by have e : cntI (md_clashP n f b0) (a + 1) = (cntI (md_clashP n f b0) a) + (0 : Int32) := (by rw [cntI, pB_f (fun z => z.1 c2)]; rfl); rw [e]; exact lv_sub hl [2, 3, 1, 0] rfl)
          · have c2 := nn_neq (a := a) (b := b0) (by omega) (by omega) c2
            refine lv_aload_n hx hb dX8_clash_28 rfl (lv_at hl 0 rfl) ?_
            refine lv_iload_n hx hb dX8_clash_29 rfl (lv_at hl 3 rfl) ?_
            refine lv_aload_n hx hb dX8_clash_30 rfl (lv_at hl 0 rfl) ?_
            refine md_geti hx hb hts hin_wsX80 hown hC hM 0 (by decide) rfl fl_125 dX8_clash_31 ?_
            refine lv_aload_n hx hb dX8_clash_34 rfl (lv_at hl 0 rfl) ?_
            refine md_geti hx hb hts hin_wsX80 hown hC hM 0 (by decide) rfl fl_125 dX8_clash_35 ?_
            refine mp_calli (va_runV (As := [.int (nI a), .int (n 0), .int (n 0)]) (rest := [.int (cntI (md_clashP n f b0) a)]) ⟨hx, hb, hml, hown, hts⟩ (c_X8_stood l X G A B h ad n f a (by omega) (n 0) (n 0)) (cwV 3 hts gX8_clash_X8_stood rfl rfl rfl (by decide +kernel) ⟨Nat.le_of_ble_eq_true rfl, Nat.le_of_ble_eq_true rfl⟩) (mp_preV hC hS hM (md_recv hC hM)) rfl rfl hl.1 rfl (lv_room (Nat.le_of_ble_eq_true rfl)) dX8_clash_38 ⟨Nat.le_of_ble_eq_true rfl, Nat.le_of_ble_eq_true rfl⟩) hS (fun H locs hM hS => ?_)
            refine lv_if_eq (tgt := 80) hx hb dX8_clash_41 (by decide) (fun c3 => ?_) (fun c3 => ?_)
            · have c3 : (pB (md_stood f a (n 0) (n 0))) = false := bI_0.mp c3
              refine lv_iconst (v := (0 : Int32)) hx hb dX8_clash_80 (by decide) ?_
              refine lv_iadd hx hb dX8_clash_81 ?_
              refine lv_istore_n (lv' := [(2, .int ((cntI (md_clashP n f b0) a) + (0 : Int32))), (0, .ref h), (1, .int (nI b0)), (3, .int (nI a))]) hx hb dX8_clash_82 rfl hl (by decide) rfl (fun ls hl => ?_)
              refine lv_iinc (v := nI (a + 1)) (lv' := [(3, .int (nI (a + 1))), (2, .int ((cntI (md_clashP n f b0) a) + (0 : Int32))), (0, .ref h), (1, .int (nI b0))]) hx hb dX8_clash_83 hl (k := 3) rfl (nI_1 a) (by decide) rfl (fun ls hl => ?_)
              refine lv_goto (tgt := 14) hx hb dX8_clash_86 (by decide) ?_
              exact ih (a + 1) ls _ _ (by omega) (by omega) hM hS (by have e : cntI (md_clashP n f b0) (a + 1) = (cntI (md_clashP n f b0) a) + (0 : Int32) := (by rw [cntI, pB_f (fun z => pB_not.mp c3 z.2.1)]; rfl); rw [e]; exact lv_sub hl [2, 3, 1, 0] rfl)
            · have c3 : (pB (md_stood f a (n 0) (n 0))) = true := bI_1.mp c3
              refine lv_aload_n hx hb dX8_clash_44 rfl (lv_at hl 0 rfl) ?_
              refine lv_iload_n hx hb dX8_clash_45 rfl (lv_at hl 3 rfl) ?_
              refine lv_aload_n hx hb dX8_clash_46 rfl (lv_at hl 0 rfl) ?_
              refine md_getr hx hb hts hin_wsX80 hown hC hM 24 (by decide) rfl fl_51 dX8_clash_47 ?_
              refine lv_iload_n hx hb dX8_clash_50 rfl (lv_at hl 1 rfl) ?_
              refine md_iald hx hb hC hM 24 rfl (j := b0) (by omega) (by decide) dX8_clash_51 ?_
              refine lv_aload_n hx hb dX8_clash_52 rfl (lv_at hl 0 rfl) ?_
              refine md_getr hx hb hts hin_wsX80 hown hC hM 25 (by decide) rfl fl_54 dX8_clash_53 ?_
              refine lv_iload_n hx hb dX8_clash_56 rfl (lv_at hl 1 rfl) ?_
              refine md_iald hx hb hC hM 25 rfl (j := b0) (by omega) (by decide) dX8_clash_57 ?_
              refine lv_aload_n hx hb dX8_clash_58 rfl (lv_at hl 0 rfl) ?_
              refine md_getr hx hb hts hin_wsX80 hown hC hM 26 (by decide) rfl fl_57 dX8_clash_59 ?_
              refine lv_iload_n hx hb dX8_clash_62 rfl (lv_at hl 1 rfl) ?_
              refine md_iald hx hb hC hM 26 rfl (j := b0) (by omega) (by decide) dX8_clash_63 ?_
              refine lv_aload_n hx hb dX8_clash_64 rfl (lv_at hl 0 rfl) ?_
              refine md_getr hx hb hts hin_wsX80 hown hC hM 27 (by decide) rfl fl_60 dX8_clash_65 ?_
              refine lv_iload_n hx hb dX8_clash_68 rfl (lv_at hl 1 rfl) ?_
              refine md_iald hx hb hC hM 27 rfl (j := b0) (by omega) (by decide) dX8_clash_69 ?_
              refine mp_calli (va_runV (As := [.int (nI a), .int (f 24 b0), .int (f 25 b0), .int (f 26 b0), .int (f 27 b0)]) (rest := [.int (cntI (md_clashP n f b0) a)]) ⟨hx, hb, hml, hown, hts⟩ (c_X8_meets l X G A B h ad n f a (by omega) (f 24 b0) (f 25 b0) (f 26 b0) (f 27 b0)) (cwV 5 hts gX8_clash_X8_meets rfl rfl rfl (by decide +kernel) ⟨Nat.le_of_ble_eq_true rfl, Nat.le_of_ble_eq_true rfl⟩) (mp_preV hC hS hM (md_recv hC hM)) rfl rfl hl.1 rfl (lv_room (Nat.le_of_ble_eq_true rfl)) dX8_clash_70 ⟨Nat.le_of_ble_eq_true rfl, Nat.le_of_ble_eq_true rfl⟩) hS (fun H locs hM hS => ?_)
              refine lv_if_eq (tgt := 80) hx hb dX8_clash_73 (by decide) (fun c4 => ?_) (fun c4 => ?_)
              · have c4 : (pB (md_meets f a (f 24 b0) (f 25 b0) (f 26 b0) (f 27 b0))) = false := bI_0.mp c4
                refine lv_iconst (v := (0 : Int32)) hx hb dX8_clash_80 (by decide) ?_
                refine lv_iadd hx hb dX8_clash_81 ?_
                refine lv_istore_n (lv' := [(2, .int ((cntI (md_clashP n f b0) a) + (0 : Int32))), (0, .ref h), (1, .int (nI b0)), (3, .int (nI a))]) hx hb dX8_clash_82 rfl hl (by decide) rfl (fun ls hl => ?_)
                refine lv_iinc (v := nI (a + 1)) (lv' := [(3, .int (nI (a + 1))), (2, .int ((cntI (md_clashP n f b0) a) + (0 : Int32))), (0, .ref h), (1, .int (nI b0))]) hx hb dX8_clash_83 hl (k := 3) rfl (nI_1 a) (by decide) rfl (fun ls hl => ?_)
                refine lv_goto (tgt := 14) hx hb dX8_clash_86 (by decide) ?_
                exact ih (a + 1) ls _ _ (by omega) (by omega) hM hS (by have e : cntI (md_clashP n f b0) (a + 1) = (cntI (md_clashP n f b0) a) + (0 : Int32) := (by rw [cntI, pB_f (fun z => pB_not.mp c4 z.2.2)]; rfl); rw [e]; exact lv_sub hl [2, 3, 1, 0] rfl)
              · have c4 : (pB (md_meets f a (f 24 b0) (f 25 b0) (f 26 b0) (f 27 b0))) = true := bI_1.mp c4
                refine lv_iconst (v := (1 : Int32)) hx hb dX8_clash_76 (by decide) ?_
                refine lv_goto (tgt := 81) hx hb dX8_clash_77 (by decide) ?_
                refine lv_iadd hx hb dX8_clash_81 ?_
                refine lv_istore_n (lv' := [(2, .int ((cntI (md_clashP n f b0) a) + (1 : Int32))), (0, .ref h), (1, .int (nI b0)), (3, .int (nI a))]) hx hb dX8_clash_82 rfl hl (by decide) rfl (fun ls hl => ?_)
                refine lv_iinc (v := nI (a + 1)) (lv' := [(3, .int (nI (a + 1))), (2, .int ((cntI (md_clashP n f b0) a) + (1 : Int32))), (0, .ref h), (1, .int (nI b0))]) hx hb dX8_clash_83 hl (k := 3) rfl (nI_1 a) (by decide) rfl (fun ls hl => ?_)
                refine lv_goto (tgt := 14) hx hb dX8_clash_86 (by decide) ?_
                exact ih (a + 1) ls _ _ (by omega) (by omega) hM hS (by have e : cntI (md_clashP n f b0) (a + 1) = (cntI (md_clashP n f b0) a) + (1 : Int32) := (by rw [cntI, pB_t ⟨c2, pB_iff.mp c3, pB_iff.mp c4⟩]; rfl); rw [e]; exact lv_sub hl [2, 3, 1, 0] rfl)
    exact LP14 _ 0 ls _ _ (Nat.lt_succ_self _) (Nat.zero_le _) hM hS (lv_sub hl [2, 3, 1, 0] rfl)
  · have c1 : (pB (md_in q 0 (n 4 - 1))) = false := bI_0.mp c1
    refine lv_iconst (v := (-1 : Int32)) hx hb dX8_clash_8 (by decide) ?_
    exact mp_iret hx hb hr hlocks (Nat.le_of_ble_eq_true rfl) (Nat.le_of_ble_eq_true rfl) hM hS dX8_clash_9 (⟨by rw [md_clash, pB_f (fun z => pB_not.mp c1 (by rw [hap]; exact z))]; rfl, rfl⟩)
abbrev rmX8_told : Room := { frames := 2, cells := 0, slots := 0, locals := 43 }
set_option maxHeartbeats 4000000 in
set_option maxRecDepth 100000 in
theorem c_X8_told (l : Launch) (X : mp_X) (G : mp_G) (A : Nat → Prop) (B : mp_M) (h : Nat) (ad : Nat → Nat) (n : Nat → Int32) (f : Nat → Nat → Int32) (ap : Nat) (hap : n 4 = nI ap) (hap9 : ap ≤ 40) (q w : Int32) : mp_Met l X G A yX8_told wsX8_told rmX8_told ([.ref h, .int q, .int w] : List Value) (md_M G B h ad n f) (fun v M1 => v = some (.int (md_told n f ap q w)) ∧ M1 = md_M G B h ad n f) 0 0 := by
  refine mp_ofW (cc := cX8_told) (maxL := 5) (ret := (some .int)) (by decide) rfl (Nat.le_of_ble_eq_true rfl) ?_
  intro p e s m below meth c ls hx hb hr hts hown hlocks hnm hml hC hM hS hl
  have hl : lv_has ls 5 [(0, .ref h), (1, .int q), (2, .int w)] := hl
  have hown : s.vm.findClass RX8 = some m.cls := hown
  have fl_69 := hts (.fieldLink RX8 69 "PlanningBenchModel" "since" "[I") (List.mem_of_getElem? (i := 1) rfl)
  have hin_wsX80 : ∀ w ∈ wsX80, w ∈ wsX8_told := fun _ h => List.mem_cons_of_mem _ (List.mem_append_right _ h)
  have fl_48 := hts (.fieldLink RX8 48 "PlanningBenchModel" "onPlot" "[I") (List.mem_of_getElem? (i := 2) rfl)
  have fl_75 := hts (.fieldLink RX8 75 "PlanningBenchModel" "refusedBy" "[I") (List.mem_of_getElem? (i := 3) rfl)
  have fl_78 := hts (.fieldLink RX8 78 "PlanningBenchModel" "weight" "[I") (List.mem_of_getElem? (i := 4) rfl)
  have fl_81 := hts (.fieldLink RX8 81 "PlanningBenchModel" "decided" "[I") (List.mem_of_getElem? (i := 5) rfl)
  have fl_84 := hts (.fieldLink RX8 84 "PlanningBenchModel" "begun" "[I") (List.mem_of_getElem? (i := 6) rfl)
  have fl_87 := hts (.fieldLink RX8 87 "PlanningBenchModel" "done" "[I") (List.mem_of_getElem? (i := 7) rfl)
  have fl_96 := hts (.fieldLink RX8 96 "PlanningBenchModel" "isAppealed" "[Z") (List.mem_of_getElem? (i := 8) rfl)
  refine lv_aload_n hx hb dX8_told_0 rfl (lv_at hl 0 rfl) ?_
  refine lv_iload_n hx hb dX8_told_1 rfl (lv_at hl 1 rfl) ?_
  refine mp_calli (va_runV (As := [.int q]) (rest := []) ⟨hx, hb, hml, hown, hts⟩ (c_X8_isApplication l X G A B h ad n f q) (cwV 1 hts gX8_told_X8_isApplication rfl rfl rfl (by decide +kernel) ⟨Nat.le_of_ble_eq_true rfl, Nat.le_of_ble_eq_true rfl⟩) (mp_preV hC hS hM (md_recv hC hM)) rfl rfl hl.1 rfl (lv_room (Nat.le_of_ble_eq_true rfl)) dX8_told_2 ⟨Nat.le_of_ble_eq_true rfl, Nat.le_of_ble_eq_true rfl⟩) hS (fun H locs hM hS => ?_)
  refine lv_if_ne (tgt := 10) hx hb dX8_told_5 (by decide) (fun c1 => ?_) (fun c1 => ?_)
  · have c1 : (pB (md_in q 0 (n 4 - 1))) = true := bI_1.mp c1
    obtain ⟨a, ha, e_a⟩ := md_nat (k := ap) (by omega) (by have z := pB_iff.mp c1; rw [hap] at z; exact z)
    subst e_a
    have ecl : (nI a).toNatClampNeg = a := nI_clamp (by omega)
    refine lv_iload_n hx hb dX8_told_10 rfl (lv_at hl 1 rfl) ?_
    refine lv_istore_n (lv' := [(3, .int (nI a)), (0, .ref h), (1, .int (nI a)), (2, .int w)]) hx hb dX8_told_11 rfl hl (by decide) rfl (fun ls hl => ?_)
    refine lv_aload_n hx hb dX8_told_12 rfl (lv_at hl 1 rfl) ?_
    refine lv_iload_n hx hb dX8_told_13 rfl (lv_at hl 0 rfl) ?_
    refine mp_calli (va_runV (As := [.int (nI a)]) (rest := []) ⟨hx, hb, hml, hown, hts⟩ (c_X8_howNow l X G A B h ad n f a (by omega)) (cwV 1 hts gX8_told_X8_howNow rfl rfl rfl (by decide +kernel) ⟨Nat.le_of_ble_eq_true rfl, Nat.le_of_ble_eq_true rfl⟩) (mp_preV hC hS hM (md_recv hC hM)) rfl rfl hl.1 rfl (lv_room (Nat.le_of_ble_eq_true rfl)) dX8_told_14 ⟨Nat.le_of_ble_eq_true rfl, Nat.le_of_ble_eq_true rfl⟩) hS (fun H locs hM hS => ?_)
    refine lv_istore (lv' := [(4, .int (md_how n f a)), (3, .int (nI a)), (0, .ref h), (1, .int (nI a)), (2, .int w)]) hx hb dX8_told_17 hl (by decide) rfl (fun ls hl => ?_)
    refine lv_iload_n hx hb dX8_told_19 rfl (lv_at hl 4 rfl) ?_
    by_cases t_0 : w = (0 : Int32)
    · have t_e : w = (0 : Int32) := t_0
      refine lv_tableIn (tgt := 76) (off := 56) hx hb dX8_told_20 (by rw [t_e]; decide) (by rw [t_e]; decide) (by rw [t_e]; rfl) (by decide) ?_
      refine lv_iload hx hb dX8_told_76 (lv_at hl 0 rfl) ?_
      exact mp_iret hx hb hr hlocks (Nat.le_of_ble_eq_true rfl) (Nat.le_of_ble_eq_true rfl) hM hS dX8_told_78 (⟨by rw [md_told, pB_t (show md_appOK ap (nI a) by rw [md_appOK, ← hap]; exact pB_iff.mp c1), if_pos rfl, ecl, md_toldV, if_pos t_e], rfl⟩)
    by_cases t_1 : w = (1 : Int32)
    · have t_e : w = (1 : Int32) := t_1
      refine lv_tableIn (tgt := 79) (off := 59) hx hb dX8_told_20 (by rw [t_e]; decide) (by rw [t_e]; decide) (by rw [t_e]; rfl) (by decide) ?_
      refine lv_aload_n hx hb dX8_told_79 rfl (lv_at hl 2 rfl) ?_
      refine md_getr hx hb hts hin_wsX80 hown hC hM 30 (by decide) rfl fl_69 dX8_told_80 ?_
      refine lv_iload_n hx hb dX8_told_83 rfl (lv_at hl 1 rfl) ?_
      refine md_iald hx hb hC hM 30 rfl (j := a) (by omega) (by decide) dX8_told_84 ?_
      exact mp_iret hx hb hr hlocks (Nat.le_of_ble_eq_true rfl) (Nat.le_of_ble_eq_true rfl) hM hS dX8_told_85 (⟨by rw [md_told, pB_t (show md_appOK ap (nI a) by rw [md_appOK, ← hap]; exact pB_iff.mp c1), if_pos rfl, ecl, md_toldV, if_neg t_0, if_pos t_e], rfl⟩)
    by_cases t_2 : w = (2 : Int32)
    · have t_e : w = (2 : Int32) := t_2
      refine lv_tableIn (tgt := 86) (off := 66) hx hb dX8_told_20 (by rw [t_e]; decide) (by rw [t_e]; decide) (by rw [t_e]; rfl) (by decide) ?_
      refine lv_aload_n hx hb dX8_told_86 rfl (lv_at hl 2 rfl) ?_
      refine md_getr hx hb hts hin_wsX80 hown hC hM 23 (by decide) rfl fl_48 dX8_told_87 ?_
      refine lv_iload_n hx hb dX8_told_90 rfl (lv_at hl 1 rfl) ?_
      refine md_iald hx hb hC hM 23 rfl (j := a) (by omega) (by decide) dX8_told_91 ?_
      exact mp_iret hx hb hr hlocks (Nat.le_of_ble_eq_true rfl) (Nat.le_of_ble_eq_true rfl) hM hS dX8_told_92 (⟨by rw [md_told, pB_t (show md_appOK ap (nI a) by rw [md_appOK, ← hap]; exact pB_iff.mp c1), if_pos rfl, ecl, md_toldV, if_neg t_0, if_neg t_1, if_pos t_e], rfl⟩)
    by_cases t_3 : w = (3 : Int32)
    · have t_e : w = (3 : Int32) := t_3
      refine lv_tableIn (tgt := 93) (off := 73) hx hb dX8_told_20 (by rw [t_e]; decide) (by rw [t_e]; decide) (by rw [t_e]; rfl) (by decide) ?_
      refine lv_aload_n hx hb dX8_told_93 rfl (lv_at hl 2 rfl) ?_
      refine md_getr hx hb hts hin_wsX80 hown hC hM 32 (by decide) rfl fl_75 dX8_told_94 ?_
      refine lv_iload_n hx hb dX8_told_97 rfl (lv_at hl 1 rfl) ?_
      refine md_iald hx hb hC hM 32 rfl (j := a) (by omega) (by decide) dX8_told_98 ?_
      exact mp_iret hx hb hr hlocks (Nat.le_of_ble_eq_true rfl) (Nat.le_of_ble_eq_true rfl) hM hS dX8_told_99 (⟨by rw [md_told, pB_t (show md_appOK ap (nI a) by rw [md_appOK, ← hap]; exact pB_iff.mp c1), if_pos rfl, ecl, md_toldV, if_neg t_0, if_neg t_1, if_neg t_2, if_pos t_e], rfl⟩)
    by_cases t_4 : w = (4 : Int32)
    · have t_e : w = (4 : Int32) := t_4
      refine lv_tableIn (tgt := 100) (off := 80) hx hb dX8_told_20 (by rw [t_e]; decide) (by rw [t_e]; decide) (by rw [t_e]; rfl) (by decide) ?_
      refine lv_aload_n hx hb dX8_told_100 rfl (lv_at hl 2 rfl) ?_
      refine md_getr hx hb hts hin_wsX80 hown hC hM 33 (by decide) rfl fl_78 dX8_told_101 ?_
      refine lv_iload_n hx hb dX8_told_104 rfl (lv_at hl 1 rfl) ?_
      refine md_iald hx hb hC hM 33 rfl (j := a) (by omega) (by decide) dX8_told_105 ?_
      exact mp_iret hx hb hr hlocks (Nat.le_of_ble_eq_true rfl) (Nat.le_of_ble_eq_true rfl) hM hS dX8_told_106 (⟨by rw [md_told, pB_t (show md_appOK ap (nI a) by rw [md_appOK, ← hap]; exact pB_iff.mp c1), if_pos rfl, ecl, md_toldV, if_neg t_0, if_neg t_1, if_neg t_2, if_neg t_3, if_pos t_e], rfl⟩)
    by_cases t_5 : w = (5 : Int32)
    · have t_e : w = (5 : Int32) := t_5
      refine lv_tableIn (tgt := 107) (off := 87) hx hb dX8_told_20 (by rw [t_e]; decide) (by rw [t_e]; decide) (by rw [t_e]; rfl) (by decide) ?_
      refine lv_aload_n hx hb dX8_told_107 rfl (lv_at hl 2 rfl) ?_
      refine md_getr hx hb hts hin_wsX80 hown hC hM 34 (by decide) rfl fl_81 dX8_told_108 ?_
      refine lv_iload_n hx hb dX8_told_111 rfl (lv_at hl 1 rfl) ?_
      refine md_iald hx hb hC hM 34 rfl (j := a) (by omega) (by decide) dX8_told_112 ?_
      exact mp_iret hx hb hr hlocks (Nat.le_of_ble_eq_true rfl) (Nat.le_of_ble_eq_true rfl) hM hS dX8_told_113 (⟨by rw [md_told, pB_t (show md_appOK ap (nI a) by rw [md_appOK, ← hap]; exact pB_iff.mp c1), if_pos rfl, ecl, md_toldV, if_neg t_0, if_neg t_1, if_neg t_2, if_neg t_3, if_neg t_4, if_pos t_e], rfl⟩)
    by_cases t_6 : w = (6 : Int32)
    · have t_e : w = (6 : Int32) := t_6
      refine lv_tableIn (tgt := 114) (off := 94) hx hb dX8_told_20 (by rw [t_e]; decide) (by rw [t_e]; decide) (by rw [t_e]; rfl) (by decide) ?_
      refine lv_aload_n hx hb dX8_told_114 rfl (lv_at hl 2 rfl) ?_
      refine md_getr hx hb hts hin_wsX80 hown hC hM 35 (by decide) rfl fl_84 dX8_told_115 ?_
      refine lv_iload_n hx hb dX8_told_118 rfl (lv_at hl 1 rfl) ?_
      refine md_iald hx hb hC hM 35 rfl (j := a) (by omega) (by decide) dX8_told_119 ?_
      exact mp_iret hx hb hr hlocks (Nat.le_of_ble_eq_true rfl) (Nat.le_of_ble_eq_true rfl) hM hS dX8_told_120 (⟨by rw [md_told, pB_t (show md_appOK ap (nI a) by rw [md_appOK, ← hap]; exact pB_iff.mp c1), if_pos rfl, ecl, md_toldV, if_neg t_0, if_neg t_1, if_neg t_2, if_neg t_3, if_neg t_4, if_neg t_5, if_pos t_e], rfl⟩)
    by_cases t_7 : w = (7 : Int32)
    · have t_e : w = (7 : Int32) := t_7
      refine lv_tableIn (tgt := 121) (off := 101) hx hb dX8_told_20 (by rw [t_e]; decide) (by rw [t_e]; decide) (by rw [t_e]; rfl) (by decide) ?_
      refine lv_aload_n hx hb dX8_told_121 rfl (lv_at hl 2 rfl) ?_
      refine md_getr hx hb hts hin_wsX80 hown hC hM 36 (by decide) rfl fl_87 dX8_told_122 ?_
      refine lv_iload_n hx hb dX8_told_125 rfl (lv_at hl 1 rfl) ?_
      refine md_iald hx hb hC hM 36 rfl (j := a) (by omega) (by decide) dX8_told_126 ?_
      exact mp_iret hx hb hr hlocks (Nat.le_of_ble_eq_true rfl) (Nat.le_of_ble_eq_true rfl) hM hS dX8_told_127 (⟨by rw [md_told, pB_t (show md_appOK ap (nI a) by rw [md_appOK, ← hap]; exact pB_iff.mp c1), if_pos rfl, ecl, md_toldV, if_neg t_0, if_neg t_1, if_neg t_2, if_neg t_3, if_neg t_4, if_neg t_5, if_neg t_6, if_pos t_e], rfl⟩)
    by_cases t_8 : w = (8 : Int32)
    · have t_e : w = (8 : Int32) := t_8
      refine lv_tableIn (tgt := 128) (off := 108) hx hb dX8_told_20 (by rw [t_e]; decide) (by rw [t_e]; decide) (by rw [t_e]; rfl) (by decide) ?_
      refine lv_iload hx hb dX8_told_128 (lv_at hl 0 rfl) ?_
      refine lv_if_ne (tgt := 145) hx hb dX8_told_130 (by decide) (fun c2 => ?_) (fun c2 => ?_)
      · have c2 := c2
        refine lv_iload hx hb dX8_told_145 (lv_at hl 0 rfl) ?_
        refine lv_iconst (v := (1 : Int32)) hx hb dX8_told_147 (by decide) ?_
        refine lv_icmp_ne (tgt := 164) hx hb dX8_told_148 (by decide) (fun c3 => ?_) (fun c3 => ?_)
        · have c3 := c3
          refine lv_iload hx hb dX8_told_164 (lv_at hl 0 rfl) ?_
          refine lv_iconst (v := (3 : Int32)) hx hb dX8_told_166 (by decide) ?_
          refine lv_icmp_ne (tgt := 183) hx hb dX8_told_167 (by decide) (fun c4 => ?_) (fun c4 => ?_)
          · have c4 := c4
            refine lv_iload hx hb dX8_told_183 (lv_at hl 0 rfl) ?_
            refine lv_iconst (v := (2 : Int32)) hx hb dX8_told_185 (by decide) ?_
            refine lv_icmp_ne (tgt := 210) hx hb dX8_told_186 (by decide) (fun c5 => ?_) (fun c5 => ?_)
            · have c5 := c5
              refine lv_iconst (v := (-1 : Int32)) hx hb dX8_told_210 (by decide) ?_
              exact mp_iret hx hb hr hlocks (Nat.le_of_ble_eq_true rfl) (Nat.le_of_ble_eq_true rfl) hM hS dX8_told_211 (⟨by rw [md_told, pB_t (show md_appOK ap (nI a) by rw [md_appOK, ← hap]; exact pB_iff.mp c1), if_pos rfl, ecl, md_toldV, if_neg t_0, if_neg t_1, if_neg t_2, if_neg t_3, if_neg t_4, if_neg t_5, if_neg t_6, if_neg t_7, if_pos t_e, if_neg c2, if_neg c3, if_neg c4, pB_f (fun z => c5 z.1)]; rfl, rfl⟩)
            · have c5 := c5
              refine lv_aload_n hx hb dX8_told_189 rfl (lv_at hl 2 rfl) ?_
              refine md_getr hx hb hts hin_wsX80 hown hC hM 39 (by decide) rfl fl_96 dX8_told_190 ?_
              refine lv_iload_n hx hb dX8_told_193 rfl (lv_at hl 1 rfl) ?_
              refine md_zald hx hb hC hM 39 rfl (j := a) (by omega) (by decide) dX8_told_194 ?_
              refine lv_if_ne (tgt := 210) hx hb dX8_told_195 (by decide) (fun c6 => ?_) (fun c6 => ?_)
              · have c6 := c6
                refine lv_iconst (v := (-1 : Int32)) hx hb dX8_told_210 (by decide) ?_
                exact mp_iret hx hb hr hlocks (Nat.le_of_ble_eq_true rfl) (Nat.le_of_ble_eq_true rfl) hM hS dX8_told_211 (⟨by rw [md_told, pB_t (show md_appOK ap (nI a) by rw [md_appOK, ← hap]; exact pB_iff.mp c1), if_pos rfl, ecl, md_toldV, if_neg t_0, if_neg t_1, if_neg t_2, if_neg t_3, if_neg t_4, if_neg t_5, if_neg t_6, if_neg t_7, if_pos t_e, if_neg c2, if_neg c3, if_neg c4, pB_f (fun z => c6 z.2)]; rfl, rfl⟩)
              · have c6 := c6
                refine lv_aload_n hx hb dX8_told_198 rfl (lv_at hl 2 rfl) ?_
                refine md_getr hx hb hts hin_wsX80 hown hC hM 34 (by decide) rfl fl_81 dX8_told_199 ?_
                refine lv_iload_n hx hb dX8_told_202 rfl (lv_at hl 1 rfl) ?_
                refine md_iald hx hb hC hM 34 rfl (j := a) (by omega) (by decide) dX8_told_203 ?_
                refine lv_bipush (v := (60 : Int32)) hx hb dX8_told_204 (by decide) ?_
                refine lv_iadd hx hb dX8_told_206 ?_
                refine lv_goto (tgt := 211) hx hb dX8_told_207 (by decide) ?_
                exact mp_iret hx hb hr hlocks (Nat.le_of_ble_eq_true rfl) (Nat.le_of_ble_eq_true rfl) hM hS dX8_told_211 (⟨by rw [md_told, pB_t (show md_appOK ap (nI a) by rw [md_appOK, ← hap]; exact pB_iff.mp c1), if_pos rfl, ecl, md_toldV, if_neg t_0, if_neg t_1, if_neg t_2, if_neg t_3, if_neg t_4, if_neg t_5, if_neg t_6, if_neg t_7, if_pos t_e, if_neg c2, if_neg c3, if_neg c4, pB_t ⟨c5, c6⟩]; rfl, rfl⟩)
          · have c4 := c4
            refine lv_aload_n hx hb dX8_told_170 rfl (lv_at hl 2 rfl) ?_
            refine md_getr hx hb hts hin_wsX80 hown hC hM 35 (by decide) rfl fl_84 dX8_told_171 ?_
            refine lv_iload_n hx hb dX8_told_174 rfl (lv_at hl 1 rfl) ?_
            refine md_iald hx hb hC hM 35 rfl (j := a) (by omega) (by decide) dX8_told_175 ?_
            refine lv_sipush (v := (300 : Int32)) hx hb dX8_told_176 (by decide) ?_
            refine lv_iadd hx hb dX8_told_179 ?_
            refine lv_goto (tgt := 211) hx hb dX8_told_180 (by decide) ?_
            exact mp_iret hx hb hr hlocks (Nat.le_of_ble_eq_true rfl) (Nat.le_of_ble_eq_true rfl) hM hS dX8_told_211 (⟨by rw [md_told, pB_t (show md_appOK ap (nI a) by rw [md_appOK, ← hap]; exact pB_iff.mp c1), if_pos rfl, ecl, md_toldV, if_neg t_0, if_neg t_1, if_neg t_2, if_neg t_3, if_neg t_4, if_neg t_5, if_neg t_6, if_neg t_7, if_pos t_e, if_neg c2, if_neg c3, if_pos c4], rfl⟩)
        · have c3 := c3
          refine lv_aload_n hx hb dX8_told_151 rfl (lv_at hl 2 rfl) ?_
          refine md_getr hx hb hts hin_wsX80 hown hC hM 34 (by decide) rfl fl_81 dX8_told_152 ?_
          refine lv_iload_n hx hb dX8_told_155 rfl (lv_at hl 1 rfl) ?_
          refine md_iald hx hb hC hM 34 rfl (j := a) (by omega) (by decide) dX8_told_156 ?_
          refine lv_sipush (v := (400 : Int32)) hx hb dX8_told_157 (by decide) ?_
          refine lv_iadd hx hb dX8_told_160 ?_
          refine lv_goto (tgt := 211) hx hb dX8_told_161 (by decide) ?_
          exact mp_iret hx hb hr hlocks (Nat.le_of_ble_eq_true rfl) (Nat.le_of_ble_eq_true rfl) hM hS dX8_told_211 (⟨by rw [md_told, pB_t (show md_appOK ap (nI a) by rw [md_appOK, ← hap]; exact pB_iff.mp c1), if_pos rfl, ecl, md_toldV, if_neg t_0, if_neg t_1, if_neg t_2, if_neg t_3, if_neg t_4, if_neg t_5, if_neg t_6, if_neg t_7, if_pos t_e, if_neg c2, if_pos c3], rfl⟩)
      · have c2 := c2
        refine lv_aload_n hx hb dX8_told_133 rfl (lv_at hl 2 rfl) ?_
        refine md_getr hx hb hts hin_wsX80 hown hC hM 30 (by decide) rfl fl_69 dX8_told_134 ?_
        refine lv_iload_n hx hb dX8_told_137 rfl (lv_at hl 1 rfl) ?_
        refine md_iald hx hb hC hM 30 rfl (j := a) (by omega) (by decide) dX8_told_138 ?_
        refine lv_bipush (v := (30 : Int32)) hx hb dX8_told_139 (by decide) ?_
        refine lv_iadd hx hb dX8_told_141 ?_
        refine lv_goto (tgt := 211) hx hb dX8_told_142 (by decide) ?_
        exact mp_iret hx hb hr hlocks (Nat.le_of_ble_eq_true rfl) (Nat.le_of_ble_eq_true rfl) hM hS dX8_told_211 (⟨by rw [md_told, pB_t (show md_appOK ap (nI a) by rw [md_appOK, ← hap]; exact pB_iff.mp c1), if_pos rfl, ecl, md_toldV, if_neg t_0, if_neg t_1, if_neg t_2, if_neg t_3, if_neg t_4, if_neg t_5, if_neg t_6, if_neg t_7, if_pos t_e, if_pos c2], rfl⟩)
    by_cases t_9 : w = (9 : Int32)
    · have t_e : w = (9 : Int32) := t_9
      refine lv_tableIn (tgt := 212) (off := 192) hx hb dX8_told_20 (by rw [t_e]; decide) (by rw [t_e]; decide) (by rw [t_e]; rfl) (by decide) ?_
      refine lv_aload_n hx hb dX8_told_212 rfl (lv_at hl 2 rfl) ?_
      refine md_getr hx hb hts hin_wsX80 hown hC hM 39 (by decide) rfl fl_96 dX8_told_213 ?_
      refine lv_iload_n hx hb dX8_told_216 rfl (lv_at hl 1 rfl) ?_
      refine md_zald hx hb hC hM 39 rfl (j := a) (by omega) (by decide) dX8_told_217 ?_
      refine lv_if_eq (tgt := 225) hx hb dX8_told_218 (by decide) (fun c7 => ?_) (fun c7 => ?_)
      · have c7 := c7
        refine lv_iconst (v := (0 : Int32)) hx hb dX8_told_225 (by decide) ?_
        exact mp_iret hx hb hr hlocks (Nat.le_of_ble_eq_true rfl) (Nat.le_of_ble_eq_true rfl) hM hS dX8_told_226 (⟨by rw [md_told, pB_t (show md_appOK ap (nI a) by rw [md_appOK, ← hap]; exact pB_iff.mp c1), if_pos rfl, ecl, md_toldV, if_neg t_0, if_neg t_1, if_neg t_2, if_neg t_3, if_neg t_4, if_neg t_5, if_neg t_6, if_neg t_7, if_neg t_8, if_pos t_e, if_pos c7], rfl⟩)
      · have c7 := c7
        refine lv_iconst (v := (1 : Int32)) hx hb dX8_told_221 (by decide) ?_
        refine lv_goto (tgt := 226) hx hb dX8_told_222 (by decide) ?_
        exact mp_iret hx hb hr hlocks (Nat.le_of_ble_eq_true rfl) (Nat.le_of_ble_eq_true rfl) hM hS dX8_told_226 (⟨by rw [md_told, pB_t (show md_appOK ap (nI a) by rw [md_appOK, ← hap]; exact pB_iff.mp c1), if_pos rfl, ecl, md_toldV, if_neg t_0, if_neg t_1, if_neg t_2, if_neg t_3, if_neg t_4, if_neg t_5, if_neg t_6, if_neg t_7, if_neg t_8, if_pos t_e, if_neg c7], rfl⟩)
    refine lv_tableOut (tgt := 227) hx hb dX8_told_20 (by have u_0 := lv_neT t_0 (a := 0) rfl; have u_1 := lv_neT t_1 (a := 1) rfl; have u_2 := lv_neT t_2 (a := 2) rfl; have u_3 := lv_neT t_3 (a := 3) rfl; have u_4 := lv_neT t_4 (a := 4) rfl; have u_5 := lv_neT t_5 (a := 5) rfl; have u_6 := lv_neT t_6 (a := 6) rfl; have u_7 := lv_neT t_7 (a := 7) rfl; have u_8 := lv_neT t_8 (a := 8) rfl; have u_9 := lv_neT t_9 (a := 9) rfl; omega) (by decide) ?_
    refine lv_iconst (v := (-1 : Int32)) hx hb dX8_told_227 (by decide) ?_
    exact mp_iret hx hb hr hlocks (Nat.le_of_ble_eq_true rfl) (Nat.le_of_ble_eq_true rfl) hM hS dX8_told_228 (⟨by rw [md_told, pB_t (show md_appOK ap (nI a) by rw [md_appOK, ← hap]; exact pB_iff.mp c1), if_pos rfl, ecl, md_toldV, if_neg t_0, if_neg t_1, if_neg t_2, if_neg t_3, if_neg t_4, if_neg t_5, if_neg t_6, if_neg t_7, if_neg t_8, if_neg t_9], rfl⟩)
  · have c1 : (pB (md_in q 0 (n 4 - 1))) = false := bI_0.mp c1
    refine lv_iconst (v := (-1 : Int32)) hx hb dX8_told_8 (by decide) ?_
    exact mp_iret hx hb hr hlocks (Nat.le_of_ble_eq_true rfl) (Nat.le_of_ble_eq_true rfl) hM hS dX8_told_9 (⟨by rw [md_told, pB_f (fun z => pB_not.mp c1 (by rw [hap]; exact z))]; rfl, rfl⟩)
abbrev rmX8_raze : Room := { frames := 2, cells := 0, slots := 0, locals := 43 }
set_option maxHeartbeats 4000000 in
set_option maxRecDepth 100000 in
theorem c_X8_raze (l : Launch) (X : mp_X) (G : mp_G) (A : Nat → Prop) (B : mp_M) (h : Nat) (ad : Nat → Nat) (n : Nat → Int32) (f : Nat → Nat → Int32) (ap : Nat) (hap : n 4 = nI ap) (hap9 : ap ≤ 40) (q w : Int32) : mp_Met l X G A yX8_raze wsX8_raze rmX8_raze ([.ref h, .int q, .int w] : List Value) (md_M G B h ad n f) (fun v M1 => v = some (.int (bI (pB (md_razeOK n f ap q w)))) ∧ M1 = md_M G B h ad n (md_razeF n f ap q w)) 0 0 := by
  refine mp_ofW (cc := cX8_raze) (maxL := 3) (ret := (some .boolean)) (by decide) rfl (Nat.le_of_ble_eq_true rfl) ?_
  intro p e s m below meth c ls hx hb hr hts hown hlocks hnm hml hC hM hS hl
  have hl : lv_has ls 3 [(0, .ref h), (1, .int q), (2, .int w)] := hl
  have hown : s.vm.findClass RX8 = some m.cls := hown
  have fl_87 := hts (.fieldLink RX8 87 "PlanningBenchModel" "done" "[I") (List.mem_of_getElem? (i := 1) rfl)
  have hin_wsX80 : ∀ w ∈ wsX80, w ∈ wsX8_raze := fun _ h => List.mem_cons_of_mem _ (List.mem_append_right _ h)
  have fl_125 := hts (.fieldLink RX8 125 "PlanningBenchModel" "today" "I") (List.mem_of_getElem? (i := 2) rfl)
  have fl_90 := hts (.fieldLink RX8 90 "PlanningBenchModel" "razed" "[I") (List.mem_of_getElem? (i := 3) rfl)
  have fl_93 := hts (.fieldLink RX8 93 "PlanningBenchModel" "razeKnown" "[I") (List.mem_of_getElem? (i := 4) rfl)
  refine lv_aload_n hx hb dX8_raze_0 rfl (lv_at hl 0 rfl) ?_
  refine lv_iload_n hx hb dX8_raze_1 rfl (lv_at hl 1 rfl) ?_
  refine mp_calli (va_runV (As := [.int q]) (rest := []) ⟨hx, hb, hml, hown, hts⟩ (c_X8_isApplication l X G A B h ad n f q) (cwV 1 hts gX8_raze_X8_isApplication rfl rfl rfl (by decide +kernel) ⟨Nat.le_of_ble_eq_true rfl, Nat.le_of_ble_eq_true rfl⟩) (mp_preV hC hS hM (md_recv hC hM)) rfl rfl hl.1 rfl (lv_room (Nat.le_of_ble_eq_true rfl)) dX8_raze_2 ⟨Nat.le_of_ble_eq_true rfl, Nat.le_of_ble_eq_true rfl⟩) hS (fun H locs hM hS => ?_)
  refine lv_if_eq (tgt := 46) hx hb dX8_raze_5 (by decide) (fun c1 => ?_) (fun c1 => ?_)
  · have c1 : (pB (md_in q 0 (n 4 - 1))) = false := bI_0.mp c1
    refine lv_iconst (v := (0 : Int32)) hx hb dX8_raze_46 (by decide) ?_
    exact mp_zret hx hb hr hlocks (Nat.le_of_ble_eq_true rfl) (Nat.le_of_ble_eq_true rfl) hM hS dX8_raze_47 (by first | rfl | exact bI_nar _) (have z0 : pB (md_razeOK n f ap q w) = false := pB_f (fun q => pB_not.mp c1 (by rw [hap]; exact q.1)); by rw [md_razeF, z0]; exact ⟨rfl, rfl⟩)
  · have c1 : (pB (md_in q 0 (n 4 - 1))) = true := bI_1.mp c1
    obtain ⟨a, ha, e_a⟩ := md_nat (k := ap) (by omega) (by have z := pB_iff.mp c1; rw [hap] at z; exact z)
    subst e_a
    have ecl : (nI a).toNatClampNeg = a := nI_clamp (by omega)
    refine lv_aload_n hx hb dX8_raze_8 rfl (lv_at hl 0 rfl) ?_
    refine md_getr hx hb hts hin_wsX80 hown hC hM 36 (by decide) rfl fl_87 dX8_raze_9 ?_
    refine lv_iload_n hx hb dX8_raze_12 rfl (lv_at hl 1 rfl) ?_
    refine md_iald hx hb hC hM 36 rfl (j := a) (by omega) (by decide) dX8_raze_13 ?_
    refine lv_iconst (v := (-1 : Int32)) hx hb dX8_raze_14 (by decide) ?_
    refine lv_icmp_eq (tgt := 46) hx hb dX8_raze_15 (by decide) (fun c2 => ?_) (fun c2 => ?_)
    · have c2 := c2
      refine lv_iconst (v := (0 : Int32)) hx hb dX8_raze_46 (by decide) ?_
      exact mp_zret hx hb hr hlocks (Nat.le_of_ble_eq_true rfl) (Nat.le_of_ble_eq_true rfl) hM hS dX8_raze_47 (by first | rfl | exact bI_nar _) (have z0 : pB (md_razeOK n f ap (nI a) w) = false := pB_f (fun q => q.2.1 (by rw [ecl]; exact c2)); by rw [md_razeF, z0]; exact ⟨rfl, rfl⟩)
    · have c2 := c2
      refine lv_iload_n hx hb dX8_raze_18 rfl (lv_at hl 2 rfl) ?_
      refine lv_aload_n hx hb dX8_raze_19 rfl (lv_at hl 0 rfl) ?_
      refine md_getr hx hb hts hin_wsX80 hown hC hM 36 (by decide) rfl fl_87 dX8_raze_20 ?_
      refine lv_iload_n hx hb dX8_raze_23 rfl (lv_at hl 1 rfl) ?_
      refine md_iald hx hb hC hM 36 rfl (j := a) (by omega) (by decide) dX8_raze_24 ?_
      refine lv_icmp_lt (tgt := 46) hx hb dX8_raze_25 (by decide) (fun c3 => ?_) (fun c3 => ?_)
      · have c3 := c3
        refine lv_iconst (v := (0 : Int32)) hx hb dX8_raze_46 (by decide) ?_
        exact mp_zret hx hb hr hlocks (Nat.le_of_ble_eq_true rfl) (Nat.le_of_ble_eq_true rfl) hM hS dX8_raze_47 (by first | rfl | exact bI_nar _) (have z0 : pB (md_razeOK n f ap (nI a) w) = false := pB_f (fun q => absurd (by have z := q.2.2.1; rw [ecl] at z; exact z) (i_nle.mpr c3)); by rw [md_razeF, z0]; exact ⟨rfl, rfl⟩)
      · have c3 := c3
        refine lv_iload_n hx hb dX8_raze_28 rfl (lv_at hl 2 rfl) ?_
        refine lv_aload_n hx hb dX8_raze_29 rfl (lv_at hl 0 rfl) ?_
        refine md_geti hx hb hts hin_wsX80 hown hC hM 0 (by decide) rfl fl_125 dX8_raze_30 ?_
        refine lv_icmp_gt (tgt := 46) hx hb dX8_raze_33 (by decide) (fun c4 => ?_) (fun c4 => ?_)
        · have c4 := c4
          refine lv_iconst (v := (0 : Int32)) hx hb dX8_raze_46 (by decide) ?_
          exact mp_zret hx hb hr hlocks (Nat.le_of_ble_eq_true rfl) (Nat.le_of_ble_eq_true rfl) hM hS dX8_raze_47 (by first | rfl | exact bI_nar _) (have z0 : pB (md_razeOK n f ap (nI a) w) = false := pB_f (fun q => absurd q.2.2.2.1 (i_nle.mpr c4)); by rw [md_razeF, z0]; exact ⟨rfl, rfl⟩)
        · have c4 := c4
          refine lv_aload_n hx hb dX8_raze_36 rfl (lv_at hl 0 rfl) ?_
          refine md_getr hx hb hts hin_wsX80 hown hC hM 37 (by decide) rfl fl_90 dX8_raze_37 ?_
          refine lv_iload_n hx hb dX8_raze_40 rfl (lv_at hl 1 rfl) ?_
          refine md_iald hx hb hC hM 37 rfl (j := a) (by omega) (by decide) dX8_raze_41 ?_
          refine lv_iconst (v := (-1 : Int32)) hx hb dX8_raze_42 (by decide) ?_
          refine lv_icmp_eq (tgt := 48) hx hb dX8_raze_43 (by decide) (fun c5 => ?_) (fun c5 => ?_)
          · have c5 := c5
            refine lv_aload_n hx hb dX8_raze_48 rfl (lv_at hl 0 rfl) ?_
            refine md_getr hx hb hts hin_wsX80 hown hC hM 37 (by decide) rfl fl_90 dX8_raze_49 ?_
            refine lv_iload_n hx hb dX8_raze_52 rfl (lv_at hl 1 rfl) ?_
            refine lv_iload_n hx hb dX8_raze_53 rfl (lv_at hl 2 rfl) ?_
            refine md_iast hx hb hC hM hS 37 rfl (j := a) (by omega) (by decide) dX8_raze_54 (fun H locs hM hS => ?_)
            refine lv_aload_n hx hb dX8_raze_55 rfl (lv_at hl 0 rfl) ?_
            refine md_getr hx hb hts hin_wsX80 hown hC hM 38 (by decide) rfl fl_93 dX8_raze_56 ?_
            refine lv_iload_n hx hb dX8_raze_59 rfl (lv_at hl 1 rfl) ?_
            refine lv_aload_n hx hb dX8_raze_60 rfl (lv_at hl 0 rfl) ?_
            refine md_geti hx hb hts hin_wsX80 hown hC hM 0 (by decide) rfl fl_125 dX8_raze_61 ?_
            refine md_iast hx hb hC hM hS 38 rfl (j := a) (by omega) (by decide) dX8_raze_64 (fun H locs hM hS => ?_)
            have hM : mp_P G.1 A (md_M G B h ad n (va_up (va_up f 37 (upd (f 37) a w)) 38 (upd (f 38) a (n 0)))) H := hM
            refine lv_iconst (v := (1 : Int32)) hx hb dX8_raze_65 (by decide) ?_
            exact mp_zret hx hb hr hlocks (Nat.le_of_ble_eq_true rfl) (Nat.le_of_ble_eq_true rfl) hM hS dX8_raze_66 (by first | rfl | exact bI_nar _) (have q : pB (md_razeOK n f ap (nI a) w) = true := pB_t ⟨by rw [← hap]; exact pB_iff.mp c1, by rw [ecl]; exact c2, by rw [ecl]; exact i_nlt.mp c3, i_nlt.mp c4, by rw [ecl]; exact c5⟩; by rw [md_razeF, q, if_pos rfl, ecl]; exact ⟨rfl, rfl⟩)
          · have c5 := c5
            refine lv_iconst (v := (0 : Int32)) hx hb dX8_raze_46 (by decide) ?_
            exact mp_zret hx hb hr hlocks (Nat.le_of_ble_eq_true rfl) (Nat.le_of_ble_eq_true rfl) hM hS dX8_raze_47 (by first | rfl | exact bI_nar _) (have z0 : pB (md_razeOK n f ap (nI a) w) = false := pB_f (fun q => c5 (by have z := q.2.2.2.2; rw [ecl] at z; exact z)); by rw [md_razeF, z0]; exact ⟨rfl, rfl⟩)
abbrev rmX8_hold : Room := { frames := 2, cells := 0, slots := 0, locals := 43 }
set_option maxHeartbeats 4000000 in
set_option maxRecDepth 100000 in
theorem c_X8_hold (l : Launch) (X : mp_X) (G : mp_G) (A : Nat → Prop) (B : mp_M) (h : Nat) (ad : Nat → Nat) (n : Nat → Int32) (f : Nat → Nat → Int32) (pl : Nat) (hpl : n 1 = nI pl) (hpl9 : pl ≤ 12) (hn : Nat) (hhn : n 5 = nI hn) (hhn9 : hn ≤ 100) (q w t : Int32) : mp_Met l X G A yX8_hold wsX8_hold rmX8_hold ([.ref h, .int q, .int w, .int t] : List Value) (md_M G B h ad n f) (fun v M1 => v = some (.int (bI (pB (md_holdOK n pl hn q w t)))) ∧ M1 = if pB (md_holdOK n pl hn q w t) then md_M G B h ad (upd n 5 (nI (hn + 1))) (md_holdF f hn q w t (n 0)) else md_M G B h ad n f) 0 0 := by
  refine mp_ofW (cc := cX8_hold) (maxL := 4) (ret := (some .boolean)) (by decide) rfl (Nat.le_of_ble_eq_true rfl) ?_
  intro p e s m below meth c ls hx hb hr hts hown hlocks hnm hml hC hM hS hl
  have hl : lv_has ls 4 [(0, .ref h), (1, .int q), (2, .int w), (3, .int t)] := hl
  have hown : s.vm.findClass RX8 = some m.cls := hown
  have fl_125 := hts (.fieldLink RX8 125 "PlanningBenchModel" "today" "I") (List.mem_of_getElem? (i := 1) rfl)
  have hin_wsX80 : ∀ w ∈ wsX80, w ∈ wsX8_hold := fun _ h => List.mem_cons_of_mem _ (List.mem_append_right _ h)
  have fl_261 := hts (.fieldLink RX8 261 "PlanningBenchModel" "holds" "I") (List.mem_of_getElem? (i := 2) rfl)
  have fl_103 := hts (.fieldLink RX8 103 "PlanningBenchModel" "heldPlot" "[I") (List.mem_of_getElem? (i := 3) rfl)
  have fl_106 := hts (.fieldLink RX8 106 "PlanningBenchModel" "heldBy" "[I") (List.mem_of_getElem? (i := 4) rfl)
  have fl_109 := hts (.fieldLink RX8 109 "PlanningBenchModel" "heldFrom" "[I") (List.mem_of_getElem? (i := 5) rfl)
  have fl_112 := hts (.fieldLink RX8 112 "PlanningBenchModel" "heldKnown" "[I") (List.mem_of_getElem? (i := 6) rfl)
  refine lv_aload_n hx hb dX8_hold_0 rfl (lv_at hl 0 rfl) ?_
  refine lv_iload_n hx hb dX8_hold_1 rfl (lv_at hl 1 rfl) ?_
  refine mp_calli (va_runV (As := [.int q]) (rest := []) ⟨hx, hb, hml, hown, hts⟩ (c_X8_isPlot l X G A B h ad n f q) (cwV 1 hts gX8_hold_X8_isPlot rfl rfl rfl (by decide +kernel) ⟨Nat.le_of_ble_eq_true rfl, Nat.le_of_ble_eq_true rfl⟩) (mp_preV hC hS hM (md_recv hC hM)) rfl rfl hl.1 rfl (lv_room (Nat.le_of_ble_eq_true rfl)) dX8_hold_2 ⟨Nat.le_of_ble_eq_true rfl, Nat.le_of_ble_eq_true rfl⟩) hS (fun H locs hM hS => ?_)
  refine lv_if_eq (tgt := 39) hx hb dX8_hold_5 (by decide) (fun c1 => ?_) (fun c1 => ?_)
  · have c1 : (pB (md_in q 0 (n 1 - 1))) = false := bI_0.mp c1
    refine lv_iconst (v := (0 : Int32)) hx hb dX8_hold_39 (by decide) ?_
    exact mp_zret hx hb hr hlocks (Nat.le_of_ble_eq_true rfl) (Nat.le_of_ble_eq_true rfl) hM hS dX8_hold_40 (by first | rfl | exact bI_nar _) (have z0 : pB (md_holdOK n pl hn q w t) = false := pB_f (fun z => pB_not.mp c1 (by rw [hpl]; exact z.1)); by rw [z0]; exact ⟨rfl, rfl⟩)
  · have c1 : (pB (md_in q 0 (n 1 - 1))) = true := bI_1.mp c1
    refine lv_iload_n hx hb dX8_hold_8 rfl (lv_at hl 2 rfl) ?_
    refine lv_iconst (v := (0 : Int32)) hx hb dX8_hold_9 (by decide) ?_
    refine lv_bipush (v := (99 : Int32)) hx hb dX8_hold_10 (by decide) ?_
    refine mp_calli (va_runS (As := [.int w, .int (0 : Int32), .int (99 : Int32)]) (rest := []) ⟨hx, hb, hml, hown, hts⟩ (c_X8_isIn l X G A (md_M G B h ad n f) w (0 : Int32) (99 : Int32)) (va_cwS 3 hts gX8_hold_X8_isIn rfl rfl rfl (by decide +kernel) ⟨Nat.le_of_ble_eq_true rfl, Nat.le_of_ble_eq_true rfl⟩) (mp_preS hC hS hM) rfl rfl hl.1 rfl (lv_room (Nat.le_of_ble_eq_true rfl)) dX8_hold_12 ⟨Nat.le_of_ble_eq_true rfl, Nat.le_of_ble_eq_true rfl⟩) hS (fun H locs hM hS => ?_)
    refine lv_if_eq (tgt := 39) hx hb dX8_hold_15 (by decide) (fun c2 => ?_) (fun c2 => ?_)
    · have c2 : (pB (md_in w (0 : Int32) (99 : Int32))) = false := bI_0.mp c2
      refine lv_iconst (v := (0 : Int32)) hx hb dX8_hold_39 (by decide) ?_
      exact mp_zret hx hb hr hlocks (Nat.le_of_ble_eq_true rfl) (Nat.le_of_ble_eq_true rfl) hM hS dX8_hold_40 (by first | rfl | exact bI_nar _) (have z0 : pB (md_holdOK n pl hn q w t) = false := pB_f (fun z => pB_not.mp c2 z.2.1); by rw [z0]; exact ⟨rfl, rfl⟩)
    · have c2 : (pB (md_in w (0 : Int32) (99 : Int32))) = true := bI_1.mp c2
      refine lv_iload_n hx hb dX8_hold_18 rfl (lv_at hl 3 rfl) ?_
      refine lv_iconst (v := (0 : Int32)) hx hb dX8_hold_19 (by decide) ?_
      refine lv_aload_n hx hb dX8_hold_20 rfl (lv_at hl 0 rfl) ?_
      refine md_geti hx hb hts hin_wsX80 hown hC hM 0 (by decide) rfl fl_125 dX8_hold_21 ?_
      refine mp_calli (va_runS (As := [.int t, .int (0 : Int32), .int (n 0)]) (rest := []) ⟨hx, hb, hml, hown, hts⟩ (c_X8_isIn l X G A (md_M G B h ad n f) t (0 : Int32) (n 0)) (va_cwS 3 hts gX8_hold_X8_isIn rfl rfl rfl (by decide +kernel) ⟨Nat.le_of_ble_eq_true rfl, Nat.le_of_ble_eq_true rfl⟩) (mp_preS hC hS hM) rfl rfl hl.1 rfl (lv_room (Nat.le_of_ble_eq_true rfl)) dX8_hold_24 ⟨Nat.le_of_ble_eq_true rfl, Nat.le_of_ble_eq_true rfl⟩) hS (fun H locs hM hS => ?_)
      refine lv_if_eq (tgt := 39) hx hb dX8_hold_27 (by decide) (fun c3 => ?_) (fun c3 => ?_)
      · have c3 : (pB (md_in t (0 : Int32) (n 0))) = false := bI_0.mp c3
        refine lv_iconst (v := (0 : Int32)) hx hb dX8_hold_39 (by decide) ?_
        exact mp_zret hx hb hr hlocks (Nat.le_of_ble_eq_true rfl) (Nat.le_of_ble_eq_true rfl) hM hS dX8_hold_40 (by first | rfl | exact bI_nar _) (have z0 : pB (md_holdOK n pl hn q w t) = false := pB_f (fun z => pB_not.mp c3 z.2.2.1); by rw [z0]; exact ⟨rfl, rfl⟩)
      · have c3 : (pB (md_in t (0 : Int32) (n 0))) = true := bI_1.mp c3
        refine lv_aload_n hx hb dX8_hold_30 rfl (lv_at hl 0 rfl) ?_
        refine md_geti hx hb hts hin_wsX80 hown hC hM 5 (by decide) rfl fl_261 dX8_hold_31 ?_
        refine mp_top (nI hn) hhn ?_
        refine lv_bipush (v := (100 : Int32)) hx hb dX8_hold_34 (by decide) ?_
        refine lv_icmp_ne (tgt := 41) hx hb dX8_hold_36 (by decide) (fun c4 => ?_) (fun c4 => ?_)
        · have c4 := nn_neq (a := hn) (b := 100) (by omega) (by omega) c4
          refine lv_aload_n hx hb dX8_hold_41 rfl (lv_at hl 0 rfl) ?_
          refine md_getr hx hb hts hin_wsX80 hown hC hM 41 (by decide) rfl fl_103 dX8_hold_42 ?_
          refine lv_aload_n hx hb dX8_hold_45 rfl (lv_at hl 0 rfl) ?_
          refine md_geti hx hb hts hin_wsX80 hown hC hM 5 (by decide) rfl fl_261 dX8_hold_46 ?_
          refine mp_top (nI hn) hhn ?_
          refine lv_iload_n hx hb dX8_hold_49 rfl (lv_at hl 1 rfl) ?_
          refine md_iast hx hb hC hM hS 41 rfl (j := hn) (by omega) (by decide) dX8_hold_50 (fun H locs hM hS => ?_)
          refine lv_aload_n hx hb dX8_hold_51 rfl (lv_at hl 0 rfl) ?_
          refine md_getr hx hb hts hin_wsX80 hown hC hM 42 (by decide) rfl fl_106 dX8_hold_52 ?_
          refine lv_aload_n hx hb dX8_hold_55 rfl (lv_at hl 0 rfl) ?_
          refine md_geti hx hb hts hin_wsX80 hown hC hM 5 (by decide) rfl fl_261 dX8_hold_56 ?_
          refine mp_top (nI hn) hhn ?_
          refine lv_iload_n hx hb dX8_hold_59 rfl (lv_at hl 2 rfl) ?_
          refine md_iast hx hb hC hM hS 42 rfl (j := hn) (by omega) (by decide) dX8_hold_60 (fun H locs hM hS => ?_)
          have hM : mp_P G.1 A (md_M G B h ad n (va_up (va_up f 41 (upd (f 41) hn q)) 42 (upd (f 42) hn w))) H := hM
          refine lv_aload_n hx hb dX8_hold_61 rfl (lv_at hl 0 rfl) ?_
          refine md_getr hx hb hts hin_wsX80 hown hC hM 43 (by decide) rfl fl_109 dX8_hold_62 ?_
          refine lv_aload_n hx hb dX8_hold_65 rfl (lv_at hl 0 rfl) ?_
          refine md_geti hx hb hts hin_wsX80 hown hC hM 5 (by decide) rfl fl_261 dX8_hold_66 ?_
          refine mp_top (nI hn) hhn ?_
          refine lv_iload_n hx hb dX8_hold_69 rfl (lv_at hl 3 rfl) ?_
          refine md_iast hx hb hC hM hS 43 rfl (j := hn) (by omega) (by decide) dX8_hold_70 (fun H locs hM hS => ?_)
          have hM : mp_P G.1 A (md_M G B h ad n (va_up (va_up (va_up f 41 (upd (f 41) hn q)) 42 (upd (f 42) hn w)) 43 (upd (f 43) hn t))) H := hM
          refine lv_aload_n hx hb dX8_hold_71 rfl (lv_at hl 0 rfl) ?_
          refine md_getr hx hb hts hin_wsX80 hown hC hM 44 (by decide) rfl fl_112 dX8_hold_72 ?_
          refine lv_aload_n hx hb dX8_hold_75 rfl (lv_at hl 0 rfl) ?_
          refine md_geti hx hb hts hin_wsX80 hown hC hM 5 (by decide) rfl fl_261 dX8_hold_76 ?_
          refine mp_top (nI hn) hhn ?_
          refine lv_aload_n hx hb dX8_hold_79 rfl (lv_at hl 0 rfl) ?_
          refine md_geti hx hb hts hin_wsX80 hown hC hM 0 (by decide) rfl fl_125 dX8_hold_80 ?_
          refine md_iast hx hb hC hM hS 44 rfl (j := hn) (by omega) (by decide) dX8_hold_83 (fun H locs hM hS => ?_)
          have hM : mp_P G.1 A (md_M G B h ad n (va_up (va_up (va_up (va_up f 41 (upd (f 41) hn q)) 42 (upd (f 42) hn w)) 43 (upd (f 43) hn t)) 44 (upd (f 44) hn (n 0)))) H := hM
          refine lv_aload_n hx hb dX8_hold_84 rfl (lv_at hl 0 rfl) ?_
          refine lv_dup hx hb dX8_hold_85 rfl ?_
          refine md_geti hx hb hts hin_wsX80 hown hC hM 5 (by decide) rfl fl_261 dX8_hold_86 ?_
          refine mp_top (nI hn) hhn ?_
          refine lv_iconst (v := (1 : Int32)) hx hb dX8_hold_89 (by decide) ?_
          refine lv_iadd hx hb dX8_hold_90 ?_
          refine mp_top (nI (hn + 1)) (nI_add hn 1) ?_
          refine md_puti hx hb hts hin_wsX80 hown hC hM hS 5 (by decide) rfl rfl rfl fl_261 dX8_hold_91 (fun H locs hM hS => ?_)
          refine lv_iconst (v := (1 : Int32)) hx hb dX8_hold_94 (by decide) ?_
          exact mp_zret hx hb hr hlocks (Nat.le_of_ble_eq_true rfl) (Nat.le_of_ble_eq_true rfl) hM hS dX8_hold_95 (by first | rfl | exact bI_nar _) (have z0 : pB (md_holdOK n pl hn q w t) = true := pB_t ⟨by rw [← hpl]; exact pB_iff.mp c1, pB_iff.mp c2, pB_iff.mp c3, c4⟩; by rw [z0]; exact ⟨rfl, rfl⟩)
        · have c4 := nn_eq (a := hn) (b := 100) (by omega) (by omega) c4
          refine lv_iconst (v := (0 : Int32)) hx hb dX8_hold_39 (by decide) ?_
          exact mp_zret hx hb hr hlocks (Nat.le_of_ble_eq_true rfl) (Nat.le_of_ble_eq_true rfl) hM hS dX8_hold_40 (by first | rfl | exact bI_nar _) (have z0 : pB (md_holdOK n pl hn q w t) = false := pB_f (fun z => z.2.2.2 c4); by rw [z0]; exact ⟨rfl, rfl⟩)
abbrev rmX8_holder : Room := { frames := 2, cells := 0, slots := 0, locals := 43 }
set_option maxHeartbeats 4000000 in
set_option maxRecDepth 100000 in
theorem c_X8_holder (l : Launch) (X : mp_X) (G : mp_G) (A : Nat → Prop) (B : mp_M) (h : Nat) (ad : Nat → Nat) (n : Nat → Int32) (f : Nat → Nat → Int32) (pl : Nat) (hpl : n 1 = nI pl) (hpl9 : pl ≤ 12) (hn : Nat) (hhn : n 5 = nI hn) (hhn9 : hn ≤ 100) (q d k : Int32) : mp_Met l X G A yX8_holder wsX8_holder rmX8_holder ([.ref h, .int q, .int d, .int k] : List Value) (md_M G B h ad n f) (fun v M1 => v = some (.int (md_holder f pl hn q d k)) ∧ M1 = md_M G B h ad n f) 0 0 := by
  refine mp_ofW (cc := cX8_holder) (maxL := 6) (ret := (some .int)) (by decide) rfl (Nat.le_of_ble_eq_true rfl) ?_
  intro p e s m below meth c ls hx hb hr hts hown hlocks hnm hml hC hM hS hl
  have hl : lv_has ls 6 [(0, .ref h), (1, .int q), (2, .int d), (3, .int k)] := hl
  have hown : s.vm.findClass RX8 = some m.cls := hown
  have fl_261 := hts (.fieldLink RX8 261 "PlanningBenchModel" "holds" "I") (List.mem_of_getElem? (i := 1) rfl)
  have hin_wsX80 : ∀ w ∈ wsX80, w ∈ wsX8_holder := fun _ h => List.mem_cons_of_mem _ (List.mem_append_right _ h)
  have fl_106 := hts (.fieldLink RX8 106 "PlanningBenchModel" "heldBy" "[I") (List.mem_of_getElem? (i := 5) rfl)
  have fl_103 := hts (.fieldLink RX8 103 "PlanningBenchModel" "heldPlot" "[I") (List.mem_of_getElem? (i := 2) rfl)
  have fl_109 := hts (.fieldLink RX8 109 "PlanningBenchModel" "heldFrom" "[I") (List.mem_of_getElem? (i := 3) rfl)
  have fl_112 := hts (.fieldLink RX8 112 "PlanningBenchModel" "heldKnown" "[I") (List.mem_of_getElem? (i := 4) rfl)
  refine lv_aload_n hx hb dX8_holder_0 rfl (lv_at hl 0 rfl) ?_
  refine lv_iload_n hx hb dX8_holder_1 rfl (lv_at hl 1 rfl) ?_
  refine mp_calli (va_runV (As := [.int q]) (rest := []) ⟨hx, hb, hml, hown, hts⟩ (c_X8_isPlot l X G A B h ad n f q) (cwV 1 hts gX8_holder_X8_isPlot rfl rfl rfl (by decide +kernel) ⟨Nat.le_of_ble_eq_true rfl, Nat.le_of_ble_eq_true rfl⟩) (mp_preV hC hS hM (md_recv hC hM)) rfl rfl hl.1 rfl (lv_room (Nat.le_of_ble_eq_true rfl)) dX8_holder_2 ⟨Nat.le_of_ble_eq_true rfl, Nat.le_of_ble_eq_true rfl⟩) hS (fun H locs hM hS => ?_)
  refine lv_if_eq (tgt := 22) hx hb dX8_holder_5 (by decide) (fun e1 => ?_) (fun e1 => ?_)
  · have e1 : (pB (md_in q 0 (n 1 - 1))) = false := bI_0.mp e1
    refine lv_iconst (v := (-1 : Int32)) hx hb dX8_holder_22 (by decide) ?_
    exact mp_iret hx hb hr hlocks (Nat.le_of_ble_eq_true rfl) (Nat.le_of_ble_eq_true rfl) hM hS dX8_holder_23 (⟨by rw [md_holder, pB_f (fun z => pB_not.mp e1 (by rw [hpl]; exact z.1))]; rfl, rfl⟩)
  · have e1 : (pB (md_in q 0 (n 1 - 1))) = true := bI_1.mp e1
    refine lv_iload_n hx hb dX8_holder_8 rfl (lv_at hl 2 rfl) ?_
    refine mp_calli (va_runS (As := [.int d]) (rest := []) ⟨hx, hb, hml, hown, hts⟩ (c_X8_isDay l X G A (md_M G B h ad n f) d) (va_cwS 1 hts gX8_holder_X8_isDay rfl rfl rfl (by decide +kernel) ⟨Nat.le_of_ble_eq_true rfl, Nat.le_of_ble_eq_true rfl⟩) (mp_preS hC hS hM) rfl rfl hl.1 rfl (lv_room (Nat.le_of_ble_eq_true rfl)) dX8_holder_9 ⟨Nat.le_of_ble_eq_true rfl, Nat.le_of_ble_eq_true rfl⟩) hS (fun H locs hM hS => ?_)
    refine lv_if_eq (tgt := 22) hx hb dX8_holder_12 (by decide) (fun e2 => ?_) (fun e2 => ?_)
    · have e2 : (pB (md_in d 0 9999)) = false := bI_0.mp e2
      refine lv_iconst (v := (-1 : Int32)) hx hb dX8_holder_22 (by decide) ?_
      exact mp_iret hx hb hr hlocks (Nat.le_of_ble_eq_true rfl) (Nat.le_of_ble_eq_true rfl) hM hS dX8_holder_23 (⟨by rw [md_holder, pB_f (fun z => pB_not.mp e2 z.2.1)]; rfl, rfl⟩)
    · have e2 : (pB (md_in d 0 9999)) = true := bI_1.mp e2
      refine lv_iload_n hx hb dX8_holder_15 rfl (lv_at hl 3 rfl) ?_
      refine mp_calli (va_runS (As := [.int k]) (rest := []) ⟨hx, hb, hml, hown, hts⟩ (c_X8_isDay l X G A (md_M G B h ad n f) k) (va_cwS 1 hts gX8_holder_X8_isDay rfl rfl rfl (by decide +kernel) ⟨Nat.le_of_ble_eq_true rfl, Nat.le_of_ble_eq_true rfl⟩) (mp_preS hC hS hM) rfl rfl hl.1 rfl (lv_room (Nat.le_of_ble_eq_true rfl)) dX8_holder_16 ⟨Nat.le_of_ble_eq_true rfl, Nat.le_of_ble_eq_true rfl⟩) hS (fun H locs hM hS => ?_)
      refine lv_if_ne (tgt := 24) hx hb dX8_holder_19 (by decide) (fun e3 => ?_) (fun e3 => ?_)
      · have e3 : (pB (md_in k 0 9999)) = true := bI_1.mp e3
        refine lv_iconst (v := (-1 : Int32)) hx hb dX8_holder_24 (by decide) ?_
        refine lv_istore (lv' := [(4, .int (-1 : Int32)), (0, .ref h), (1, .int q), (2, .int d), (3, .int k)]) hx hb dX8_holder_25 hl (by decide) rfl (fun ls hl => ?_)
        refine lv_iconst (v := (0 : Int32)) hx hb dX8_holder_27 (by decide) ?_
        refine lv_istore (lv' := [(5, .int (0 : Int32)), (4, .int (-1 : Int32)), (0, .ref h), (1, .int q), (2, .int d), (3, .int k)]) hx hb dX8_holder_28 hl (by decide) rfl (fun ls hl => ?_)
        have LP30 : ∀ (kk : Nat) (i : Nat) (ls : Array Slot) (H : Heap) (locs : List Loc), hn - i < kk → i ≤ hn → mp_P G.1 A (md_M G B h ad n f) H → va_S A s.heap H locs → lv_has ls 6 [(0, .ref h), (1, .int q), (2, .int d), (3, .int k), (4, .int (oI (bst (md_holdP f q d k) (f 43) i))), (5, .int (nI i))] → W p l e rmX8_holder s m ([.ref h, .int q, .int d, .int k] : List Value).toArray below meth c H locs 0 0 (MQ below (mp_Q G.1 A (fun v M1 => v = some (.int (md_holder f pl hn q d k)) ∧ M1 = md_M G B h ad n f)) ([.ref h, .int q, .int d, .int k] : List Value).toArray s 0 0 A) (F0 m 30 ls []) := by
          intro kk
          induction kk with
          | zero => intro i ls H locs hk; exact absurd hk (Nat.not_lt_zero _)
          | succ kk ih =>
            intro i ls H locs hk hi hM hS hl
            refine lv_iload hx hb dX8_holder_30 (lv_at hl 5 rfl) ?_
            refine lv_aload_n hx hb dX8_holder_32 rfl (lv_at hl 0 rfl) ?_
            refine md_geti hx hb hts hin_wsX80 hown hC hM 5 (by decide) rfl fl_261 dX8_holder_33 ?_
            refine mp_top (nI hn) hhn ?_
            refine lv_icmp_ge (tgt := 105) hx hb dX8_holder_36 (by decide) (fun hlt => ?_) (fun hlt => ?_)
            · have hlt := nn_le (a := hn) (b := i) (by omega) (by omega) hlt
              rcases ho_1 : bst (md_holdP f q d k) (f 43) i with _ | j
              · have ho_1e : oI (bst (md_holdP f q d k) (f 43) i) = (-1 : Int32) := by rw [ho_1]; rfl
                rw [ho_1e] at hl
                refine lv_iload hx hb dX8_holder_105 (lv_at hl 4 rfl) ?_
                refine lv_iconst (v := (-1 : Int32)) hx hb dX8_holder_107 (by decide) ?_
                refine lv_icmp_ne (tgt := 115) hx hb dX8_holder_108 (by decide) (fun c_2 => ?_) (fun c_2 => ?_)
                · have c_2 := c_2
                  exact absurd c_2 (fun z => z rfl)
                · have c_2 := c_2
                  refine lv_iconst (v := (-1 : Int32)) hx hb dX8_holder_111 (by decide) ?_
                  refine lv_goto (tgt := 122) hx hb dX8_holder_112 (by decide) ?_
                  exact mp_iret hx hb hr hlocks (Nat.le_of_ble_eq_true rfl) (Nat.le_of_ble_eq_true rfl) hM hS dX8_holder_122 (⟨by rw [md_holder, pB_t ⟨by rw [← hpl]; exact pB_iff.mp e1, pB_iff.mp e2, pB_iff.mp e3⟩, if_pos rfl, ← (show i = hn by omega), ho_1], rfl⟩)
              · have ho_1e : oI (bst (md_holdP f q d k) (f 43) i) = nI j := by rw [ho_1]; rfl
                have hj := bst_some ho_1
                rw [ho_1e] at hl
                refine lv_iload hx hb dX8_holder_105 (lv_at hl 4 rfl) ?_
                refine lv_iconst (v := (-1 : Int32)) hx hb dX8_holder_107 (by decide) ?_
                refine lv_icmp_ne (tgt := 115) hx hb dX8_holder_108 (by decide) (fun c_3 => ?_) (fun c_3 => ?_)
                · have c_3 := c_3
                  refine lv_aload_n hx hb dX8_holder_115 rfl (lv_at hl 0 rfl) ?_
                  refine md_getr hx hb hts hin_wsX80 hown hC hM 42 (by decide) rfl fl_106 dX8_holder_116 ?_
                  refine lv_iload hx hb dX8_holder_119 (lv_at hl 4 rfl) ?_
                  refine md_iald hx hb hC hM 42 rfl (j := j) (by omega) (by decide) dX8_holder_121 ?_
                  exact mp_iret hx hb hr hlocks (Nat.le_of_ble_eq_true rfl) (Nat.le_of_ble_eq_true rfl) hM hS dX8_holder_122 (⟨by rw [md_holder, pB_t ⟨by rw [← hpl]; exact pB_iff.mp e1, pB_iff.mp e2, pB_iff.mp e3⟩, if_pos rfl, ← (show i = hn by omega), ho_1], rfl⟩)
                · have c_3 := c_3
                  exact absurd c_3 (nI_nm1 (by omega))
            · have hlt := nn_nle (a := hn) (b := i) (by omega) (by omega) hlt
              refine lv_aload_n hx hb dX8_holder_39 rfl (lv_at hl 0 rfl) ?_
              refine md_getr hx hb hts hin_wsX80 hown hC hM 41 (by decide) rfl fl_103 dX8_holder_40 ?_
              refine lv_iload hx hb dX8_holder_43 (lv_at hl 5 rfl) ?_
              refine md_iald hx hb hC hM 41 rfl (j := i) (by omega) (by decide) dX8_holder_45 ?_
              refine lv_iload_n hx hb dX8_holder_46 rfl (lv_at hl 1 rfl) ?_
              refine lv_icmp_ne (tgt := 99) hx hb dX8_holder_47 (by decide) (fun c1 => ?_) (fun c1 => ?_)
              · have c1 := c1
                refine lv_iinc (v := nI (i + 1)) (lv' := [(5, .int (nI (i + 1))), (0, .ref h), (1, .int q), (2, .int d), (3, .int k), (4, .int (oI (bst (md_holdP f q d k) (f 43) i)))]) hx hb dX8_holder_99 hl (k := 5) rfl (nI_1 i) (by decide) rfl (fun ls hl => ?_)
                refine lv_goto (tgt := 30) hx hb dX8_holder_102 (by decide) ?_
                exact ih (i + 1) ls _ _ (by omega) (by omega) hM hS (by have e : oI (bst (md_holdP f q d k) (f 43) (i + 1)) = oI (bst (md_holdP f q d k) (f 43) i) := (congrArg oI (bst_no (fun z => c1 z.1.1))); rw [e]; exact lv_sub hl [1, 2, 3, 4, 5, 0] rfl)
              · have c1 := c1
                refine lv_aload_n hx hb dX8_holder_50 rfl (lv_at hl 0 rfl) ?_
                refine md_getr hx hb hts hin_wsX80 hown hC hM 43 (by decide) rfl fl_109 dX8_holder_51 ?_
                refine lv_iload hx hb dX8_holder_54 (lv_at hl 5 rfl) ?_
                refine md_iald hx hb hC hM 43 rfl (j := i) (by omega) (by decide) dX8_holder_56 ?_
                refine lv_iload_n hx hb dX8_holder_57 rfl (lv_at hl 2 rfl) ?_
                refine lv_icmp_gt (tgt := 99) hx hb dX8_holder_58 (by decide) (fun c2 => ?_) (fun c2 => ?_)
                · have c2 := c2
                  refine lv_iinc (v := nI (i + 1)) (lv' := [(5, .int (nI (i + 1))), (0, .ref h), (1, .int q), (2, .int d), (3, .int k), (4, .int (oI (bst (md_holdP f q d k) (f 43) i)))]) hx hb dX8_holder_99 hl (k := 5) rfl (nI_1 i) (by decide) rfl (fun ls hl => ?_)
                  refine lv_goto (tgt := 30) hx hb dX8_holder_102 (by decide) ?_
                  exact ih (i + 1) ls _ _ (by omega) (by omega) hM hS (by have e : oI (bst (md_holdP f q d k) (f 43) (i + 1)) = oI (bst (md_holdP f q d k) (f 43) i) := (congrArg oI (bst_no (fun z => absurd z.1.2.1 (i_nle.mpr c2)))); rw [e]; exact lv_sub hl [1, 2, 3, 4, 5, 0] rfl)
                · have c2 := c2
                  refine lv_aload_n hx hb dX8_holder_61 rfl (lv_at hl 0 rfl) ?_
                  refine md_getr hx hb hts hin_wsX80 hown hC hM 44 (by decide) rfl fl_112 dX8_holder_62 ?_
                  refine lv_iload hx hb dX8_holder_65 (lv_at hl 5 rfl) ?_
                  refine md_iald hx hb hC hM 44 rfl (j := i) (by omega) (by decide) dX8_holder_67 ?_
                  refine lv_iload_n hx hb dX8_holder_68 rfl (lv_at hl 3 rfl) ?_
                  refine lv_icmp_gt (tgt := 99) hx hb dX8_holder_69 (by decide) (fun c3 => ?_) (fun c3 => ?_)
                  · have c3 := c3
                    refine lv_iinc (v := nI (i + 1)) (lv' := [(5, .int (nI (i + 1))), (0, .ref h), (1, .int q), (2, .int d), (3, .int k), (4, .int (oI (bst (md_holdP f q d k) (f 43) i)))]) hx hb dX8_holder_99 hl (k := 5) rfl (nI_1 i) (by decide) rfl (fun ls hl => ?_)
                    refine lv_goto (tgt := 30) hx hb dX8_holder_102 (by decide) ?_
                    exact ih (i + 1) ls _ _ (by omega) (by omega) hM hS (by have e : oI (bst (md_holdP f q d k) (f 43) (i + 1)) = oI (bst (md_holdP f q d k) (f 43) i) := (congrArg oI (bst_no (fun z => absurd z.1.2.2 (i_nle.mpr c3)))); rw [e]; exact lv_sub hl [1, 2, 3, 4, 5, 0] rfl)
                  · have c3 := c3
                    rcases ho_4 : bst (md_holdP f q d k) (f 43) i with _ | j
                    · have ho_4e : oI (bst (md_holdP f q d k) (f 43) i) = (-1 : Int32) := by rw [ho_4]; rfl
                      rw [ho_4e] at hl
                      refine lv_iload hx hb dX8_holder_72 (lv_at hl 4 rfl) ?_
                      refine lv_iconst (v := (-1 : Int32)) hx hb dX8_holder_74 (by decide) ?_
                      refine lv_icmp_eq (tgt := 95) hx hb dX8_holder_75 (by decide) (fun c4 => ?_) (fun c4 => ?_)
                      · have c4 := c4
                        refine lv_iload hx hb dX8_holder_95 (lv_at hl 5 rfl) ?_
                        refine lv_istore (lv' := [(4, .int (nI i)), (0, .ref h), (1, .int q), (2, .int d), (3, .int k), (5, .int (nI i))]) hx hb dX8_holder_97 hl (by decide) rfl (fun ls hl => ?_)
                        refine lv_iinc (v := nI (i + 1)) (lv' := [(5, .int (nI (i + 1))), (4, .int (nI i)), (0, .ref h), (1, .int q), (2, .int d), (3, .int k)]) hx hb dX8_holder_99 hl (k := 5) rfl (nI_1 i) (by decide) rfl (fun ls hl => ?_)
                        refine lv_goto (tgt := 30) hx hb dX8_holder_102 (by decide) ?_
                        exact ih (i + 1) ls _ _ (by omega) (by omega) hM hS (by have e : oI (bst (md_holdP f q d k) (f 43) (i + 1)) = nI i := (congrArg oI (bst_yes ⟨c1, i_nlt.mp c2, i_nlt.mp c3⟩ (fun j hj => by rw [ho_4] at hj; cases hj))); rw [e]; exact lv_sub hl [2, 3, 4, 5, 1, 0] rfl)
                      · have c4 := c4
                        exact absurd c4 (by decide)
                    · have ho_4e : oI (bst (md_holdP f q d k) (f 43) i) = nI j := by rw [ho_4]; rfl
                      have hj := bst_some ho_4
                      rw [ho_4e] at hl
                      refine lv_iload hx hb dX8_holder_72 (lv_at hl 4 rfl) ?_
                      refine lv_iconst (v := (-1 : Int32)) hx hb dX8_holder_74 (by decide) ?_
                      refine lv_icmp_eq (tgt := 95) hx hb dX8_holder_75 (by decide) (fun c4 => ?_) (fun c4 => ?_)
                      · have c4 := c4
                        exact absurd c4 (nI_nm1 (by omega))
                      · have c4 := c4
                        refine lv_aload_n hx hb dX8_holder_78 rfl (lv_at hl 0 rfl) ?_
                        refine md_getr hx hb hts hin_wsX80 hown hC hM 43 (by decide) rfl fl_109 dX8_holder_79 ?_
                        refine lv_iload hx hb dX8_holder_82 (lv_at hl 5 rfl) ?_
                        refine md_iald hx hb hC hM 43 rfl (j := i) (by omega) (by decide) dX8_holder_84 ?_
                        refine lv_aload_n hx hb dX8_holder_85 rfl (lv_at hl 0 rfl) ?_
                        refine md_getr hx hb hts hin_wsX80 hown hC hM 43 (by decide) rfl fl_109 dX8_holder_86 ?_
                        refine lv_iload hx hb dX8_holder_89 (lv_at hl 4 rfl) ?_
                        refine md_iald hx hb hC hM 43 rfl (j := j) (by omega) (by decide) dX8_holder_91 ?_
                        refine lv_icmp_lt (tgt := 99) hx hb dX8_holder_92 (by decide) (fun c5 => ?_) (fun c5 => ?_)
                        · have c5 := c5
                          refine lv_iinc (v := nI (i + 1)) (lv' := [(5, .int (nI (i + 1))), (0, .ref h), (1, .int q), (2, .int d), (3, .int k), (4, .int (nI j))]) hx hb dX8_holder_99 hl (k := 5) rfl (nI_1 i) (by decide) rfl (fun ls hl => ?_)
                          refine lv_goto (tgt := 30) hx hb dX8_holder_102 (by decide) ?_
                          exact ih (i + 1) ls _ _ (by omega) (by omega) hM hS (by have e : oI (bst (md_holdP f q d k) (f 43) (i + 1)) = nI j := (congrArg oI ((bst_no (fun z => absurd (z.2 j ho_4) (i_nle.mpr c5))).trans ho_4)); rw [e]; exact lv_sub hl [1, 2, 3, 4, 5, 0] rfl)
                        · have c5 := c5
                          refine lv_iload hx hb dX8_holder_95 (lv_at hl 5 rfl) ?_
                          refine lv_istore (lv' := [(4, .int (nI i)), (0, .ref h), (1, .int q), (2, .int d), (3, .int k), (5, .int (nI i))]) hx hb dX8_holder_97 hl (by decide) rfl (fun ls hl => ?_)
                          refine lv_iinc (v := nI (i + 1)) (lv' := [(5, .int (nI (i + 1))), (4, .int (nI i)), (0, .ref h), (1, .int q), (2, .int d), (3, .int k)]) hx hb dX8_holder_99 hl (k := 5) rfl (nI_1 i) (by decide) rfl (fun ls hl => ?_)
                          refine lv_goto (tgt := 30) hx hb dX8_holder_102 (by decide) ?_
                          exact ih (i + 1) ls _ _ (by omega) (by omega) hM hS (by have e : oI (bst (md_holdP f q d k) (f 43) (i + 1)) = nI i := (congrArg oI (bst_yes ⟨c1, i_nlt.mp c2, i_nlt.mp c3⟩ (fun u hu => by rw [ho_4] at hu; cases hu; exact i_nlt.mp c5))); rw [e]; exact lv_sub hl [2, 3, 4, 5, 1, 0] rfl)
        exact LP30 _ 0 ls _ _ (Nat.lt_succ_self _) (Nat.zero_le _) hM hS (lv_sub hl [2, 3, 4, 5, 1, 0] rfl)
      · have e3 : (pB (md_in k 0 9999)) = false := bI_0.mp e3
        refine lv_iconst (v := (-1 : Int32)) hx hb dX8_holder_22 (by decide) ?_
        exact mp_iret hx hb hr hlocks (Nat.le_of_ble_eq_true rfl) (Nat.le_of_ble_eq_true rfl) hM hS dX8_holder_23 (⟨by rw [md_holder, pB_f (fun z => pB_not.mp e3 z.2.2)]; rfl, rfl⟩)
abbrev rmX8_count : Room := { frames := 1, cells := 0, slots := 0, locals := 23 }
set_option maxHeartbeats 4000000 in
set_option maxRecDepth 100000 in
theorem c_X8_count (l : Launch) (X : mp_X) (G : mp_G) (A : Nat → Prop) (B : mp_M) (h : Nat) (ad : Nat → Nat) (n : Nat → Int32) (f : Nat → Nat → Int32) (ap : Nat) (hap : n 4 = nI ap) (hap9 : ap ≤ 40) (w : Int32) : mp_Met l X G A yX8_count wsX8_count rmX8_count ([.ref h, .int w] : List Value) (md_M G B h ad n f) (fun v M1 => v = some (.int (md_count n f ap w)) ∧ M1 = md_M G B h ad n f) 0 0 := by
  refine mp_ofW (cc := cX8_count) (maxL := 4) (ret := (some .int)) (by decide) rfl (Nat.le_of_ble_eq_true rfl) ?_
  intro p e s m below meth c ls hx hb hr hts hown hlocks hnm hml hC hM hS hl
  have hl : lv_has ls 4 [(0, .ref h), (1, .int w)] := hl
  have hown : s.vm.findClass RX8 = some m.cls := hown
  have fl_125 := hts (.fieldLink RX8 125 "PlanningBenchModel" "today" "I") (List.mem_of_getElem? (i := 1) rfl)
  have hin_wsX80 : ∀ w ∈ wsX80, w ∈ wsX8_count := fun _ h => List.mem_cons_of_mem _ (List.mem_append_right _ h)
  have fl_119 := hts (.fieldLink RX8 119 "PlanningBenchModel" "plots" "I") (List.mem_of_getElem? (i := 2) rfl)
  have fl_219 := hts (.fieldLink RX8 219 "PlanningBenchModel" "plans" "I") (List.mem_of_getElem? (i := 3) rfl)
  have fl_122 := hts (.fieldLink RX8 122 "PlanningBenchModel" "applications" "I") (List.mem_of_getElem? (i := 4) rfl)
  have fl_160 := hts (.fieldLink RX8 160 "PlanningBenchModel" "taped" "I") (List.mem_of_getElem? (i := 5) rfl)
  have fl_128 := hts (.fieldLink RX8 128 "PlanningBenchModel" "telling" "I") (List.mem_of_getElem? (i := 6) rfl)
  refine lv_iload_n hx hb dX8_count_0 rfl (lv_at hl 1 rfl) ?_
  by_cases t_0 : w = (0 : Int32)
  · have t_e : w = (0 : Int32) := t_0
    refine lv_tableIn (tgt := 44) (off := 43) hx hb dX8_count_1 (by rw [t_e]; decide) (by rw [t_e]; decide) (by rw [t_e]; rfl) (by decide) ?_
    refine lv_aload_n hx hb dX8_count_44 rfl (lv_at hl 0 rfl) ?_
    refine md_geti hx hb hts hin_wsX80 hown hC hM 0 (by decide) rfl fl_125 dX8_count_45 ?_
    exact mp_iret hx hb hr hlocks (Nat.le_of_ble_eq_true rfl) (Nat.le_of_ble_eq_true rfl) hM hS dX8_count_48 (⟨by rw [md_count, if_pos t_e], rfl⟩)
  by_cases t_1 : w = (1 : Int32)
  · have t_e : w = (1 : Int32) := t_1
    refine lv_tableIn (tgt := 49) (off := 48) hx hb dX8_count_1 (by rw [t_e]; decide) (by rw [t_e]; decide) (by rw [t_e]; rfl) (by decide) ?_
    refine lv_aload_n hx hb dX8_count_49 rfl (lv_at hl 0 rfl) ?_
    refine md_geti hx hb hts hin_wsX80 hown hC hM 1 (by decide) rfl fl_119 dX8_count_50 ?_
    exact mp_iret hx hb hr hlocks (Nat.le_of_ble_eq_true rfl) (Nat.le_of_ble_eq_true rfl) hM hS dX8_count_53 (⟨by rw [md_count, if_neg t_0, if_pos t_e], rfl⟩)
  by_cases t_2 : w = (2 : Int32)
  · have t_e : w = (2 : Int32) := t_2
    refine lv_tableIn (tgt := 54) (off := 53) hx hb dX8_count_1 (by rw [t_e]; decide) (by rw [t_e]; decide) (by rw [t_e]; rfl) (by decide) ?_
    refine lv_aload_n hx hb dX8_count_54 rfl (lv_at hl 0 rfl) ?_
    refine md_geti hx hb hts hin_wsX80 hown hC hM 3 (by decide) rfl fl_219 dX8_count_55 ?_
    exact mp_iret hx hb hr hlocks (Nat.le_of_ble_eq_true rfl) (Nat.le_of_ble_eq_true rfl) hM hS dX8_count_58 (⟨by rw [md_count, if_neg t_0, if_neg t_1, if_pos t_e], rfl⟩)
  by_cases t_3 : w = (3 : Int32)
  · have t_e : w = (3 : Int32) := t_3
    refine lv_tableIn (tgt := 59) (off := 58) hx hb dX8_count_1 (by rw [t_e]; decide) (by rw [t_e]; decide) (by rw [t_e]; rfl) (by decide) ?_
    refine lv_aload_n hx hb dX8_count_59 rfl (lv_at hl 0 rfl) ?_
    refine md_geti hx hb hts hin_wsX80 hown hC hM 4 (by decide) rfl fl_122 dX8_count_60 ?_
    refine mp_top (nI ap) hap ?_
    exact mp_iret hx hb hr hlocks (Nat.le_of_ble_eq_true rfl) (Nat.le_of_ble_eq_true rfl) hM hS dX8_count_63 (⟨by rw [md_count, if_neg t_0, if_neg t_1, if_neg t_2, if_pos t_e, hap], rfl⟩)
  by_cases t_4 : w = (4 : Int32)
  · have t_e : w = (4 : Int32) := t_4
    refine lv_tableIn (tgt := 64) (off := 63) hx hb dX8_count_1 (by rw [t_e]; decide) (by rw [t_e]; decide) (by rw [t_e]; rfl) (by decide) ?_
    refine lv_aload_n hx hb dX8_count_64 rfl (lv_at hl 0 rfl) ?_
    refine md_geti hx hb hts hin_wsX80 hown hC hM 11 (by decide) rfl fl_160 dX8_count_65 ?_
    exact mp_iret hx hb hr hlocks (Nat.le_of_ble_eq_true rfl) (Nat.le_of_ble_eq_true rfl) hM hS dX8_count_68 (⟨by rw [md_count, if_neg t_0, if_neg t_1, if_neg t_2, if_neg t_3, if_pos t_e], rfl⟩)
  by_cases t_5 : w = (5 : Int32)
  · have t_e : w = (5 : Int32) := t_5
    refine lv_tableIn (tgt := 69) (off := 68) hx hb dX8_count_1 (by rw [t_e]; decide) (by rw [t_e]; decide) (by rw [t_e]; rfl) (by decide) ?_
    refine lv_aload_n hx hb dX8_count_69 rfl (lv_at hl 0 rfl) ?_
    refine md_geti hx hb hts hin_wsX80 hown hC hM 2 (by decide) rfl fl_128 dX8_count_70 ?_
    exact mp_iret hx hb hr hlocks (Nat.le_of_ble_eq_true rfl) (Nat.le_of_ble_eq_true rfl) hM hS dX8_count_73 (⟨by rw [md_count, if_neg t_0, if_neg t_1, if_neg t_2, if_neg t_3, if_neg t_4, if_pos t_e], rfl⟩)
  by_cases t_6 : w = (6 : Int32)
  · have t_e : w = (6 : Int32) := t_6
    refine lv_tableIn (tgt := 74) (off := 73) hx hb dX8_count_1 (by rw [t_e]; decide) (by rw [t_e]; decide) (by rw [t_e]; rfl) (by decide) ?_
    refine lv_iconst (v := (0 : Int32)) hx hb dX8_count_74 (by decide) ?_
    refine lv_istore_n (lv' := [(2, .int (0 : Int32)), (0, .ref h), (1, .int w)]) hx hb dX8_count_75 rfl hl (by decide) rfl (fun ls hl => ?_)
    refine lv_iconst (v := (0 : Int32)) hx hb dX8_count_76 (by decide) ?_
    refine lv_istore_n (lv' := [(3, .int (0 : Int32)), (2, .int (0 : Int32)), (0, .ref h), (1, .int w)]) hx hb dX8_count_77 rfl hl (by decide) rfl (fun ls hl => ?_)
    have LP78 : ∀ (kk : Nat) (a : Nat) (ls : Array Slot) (H : Heap) (locs : List Loc), ap - a < kk → a ≤ ap → mp_P G.1 A (md_M G B h ad n f) H → va_S A s.heap H locs → lv_has ls 4 [(0, .ref h), (1, .int w), (2, .int (cntI (fun a => md_stood f a (n 0) (n 0)) a)), (3, .int (nI a))] → W p l e rmX8_count s m ([.ref h, .int w] : List Value).toArray below meth c H locs 0 0 (MQ below (mp_Q G.1 A (fun v M1 => v = some (.int (md_count n f ap w)) ∧ M1 = md_M G B h ad n f)) ([.ref h, .int w] : List Value).toArray s 0 0 A) (F0 m 78 ls []) := by
      intro kk
      induction kk with
      | zero => intro a ls H locs hk; exact absurd hk (Nat.not_lt_zero _)
      | succ kk ih =>
        intro a ls H locs hk ha hM hS hl
        refine lv_iload_n hx hb dX8_count_78 rfl (lv_at hl 3 rfl) ?_
        refine lv_aload_n hx hb dX8_count_79 rfl (lv_at hl 0 rfl) ?_
        refine md_geti hx hb hts hin_wsX80 hown hC hM 4 (by decide) rfl fl_122 dX8_count_80 ?_
        refine mp_top (nI ap) hap ?_
        refine lv_icmp_ge (tgt := 116) hx hb dX8_count_83 (by decide) (fun hlt => ?_) (fun hlt => ?_)
        · have hlt := nn_le (a := ap) (b := a) (by omega) (by omega) hlt
          refine lv_iload_n hx hb dX8_count_116 rfl (lv_at hl 2 rfl) ?_
          exact mp_iret hx hb hr hlocks (Nat.le_of_ble_eq_true rfl) (Nat.le_of_ble_eq_true rfl) hM hS dX8_count_117 (⟨by rw [md_count, if_neg t_0, if_neg t_1, if_neg t_2, if_neg t_3, if_neg t_4, if_neg t_5, if_pos t_e, show a = ap by omega], rfl⟩)
        · have hlt := nn_nle (a := ap) (b := a) (by omega) (by omega) hlt
          refine lv_iload_n hx hb dX8_count_86 rfl (lv_at hl 2 rfl) ?_
          refine lv_aload_n hx hb dX8_count_87 rfl (lv_at hl 0 rfl) ?_
          refine lv_iload_n hx hb dX8_count_88 rfl (lv_at hl 3 rfl) ?_
          refine lv_aload_n hx hb dX8_count_89 rfl (lv_at hl 0 rfl) ?_
          refine md_geti hx hb hts hin_wsX80 hown hC hM 0 (by decide) rfl fl_125 dX8_count_90 ?_
          refine lv_aload_n hx hb dX8_count_93 rfl (lv_at hl 0 rfl) ?_
          refine md_geti hx hb hts hin_wsX80 hown hC hM 0 (by decide) rfl fl_125 dX8_count_94 ?_
          refine mp_calli (va_runV (As := [.int (nI a), .int (n 0), .int (n 0)]) (rest := [.int (cntI (fun a => md_stood f a (n 0) (n 0)) a)]) ⟨hx, hb, hml, hown, hts⟩ (c_X8_stood l X G A B h ad n f a (by omega) (n 0) (n 0)) (cwV 3 hts gX8_count_X8_stood rfl rfl rfl (by decide +kernel) ⟨Nat.le_of_ble_eq_true rfl, Nat.le_of_ble_eq_true rfl⟩) (mp_preV hC hS hM (md_recv hC hM)) rfl rfl hl.1 rfl (lv_room (Nat.le_of_ble_eq_true rfl)) dX8_count_97 ⟨Nat.le_of_ble_eq_true rfl, Nat.le_of_ble_eq_true rfl⟩) hS (fun H locs hM hS => ?_)
          refine lv_if_eq (tgt := 107) hx hb dX8_count_100 (by decide) (fun c3 => ?_) (fun c3 => ?_)
          · have c3 : (pB (md_stood f a (n 0) (n 0))) = false := bI_0.mp c3
            refine lv_iconst (v := (0 : Int32)) hx hb dX8_count_107 (by decide) ?_
            refine lv_iadd hx hb dX8_count_108 ?_
            refine lv_istore_n (lv' := [(2, .int ((cntI (fun a => md_stood f a (n 0) (n 0)) a) + (0 : Int32))), (0, .ref h), (1, .int w), (3, .int (nI a))]) hx hb dX8_count_109 rfl hl (by decide) rfl (fun ls hl => ?_)
            refine lv_iinc (v := nI (a + 1)) (lv' := [(3, .int (nI (a + 1))), (2, .int ((cntI (fun a => md_stood f a (n 0) (n 0)) a) + (0 : Int32))), (0, .ref h), (1, .int w)]) hx hb dX8_count_110 hl (k := 3) rfl (nI_1 a) (by decide) rfl (fun ls hl => ?_)
            refine lv_goto (tgt := 78) hx hb dX8_count_113 (by decide) ?_
            exact ih (a + 1) ls _ _ (by omega) (by omega) hM hS (by have e : cntI (fun a => md_stood f a (n 0) (n 0)) (a + 1) = (cntI (fun a => md_stood f a (n 0) (n 0)) a) + (0 : Int32) := (by rw [cntI, pB_f (pB_not.mp c3)]; rfl); rw [e]; exact lv_sub hl [2, 3, 1, 0] rfl)
          · have c3 : (pB (md_stood f a (n 0) (n 0))) = true := bI_1.mp c3
            refine lv_iconst (v := (1 : Int32)) hx hb dX8_count_103 (by decide) ?_
            refine lv_goto (tgt := 108) hx hb dX8_count_104 (by decide) ?_
            refine lv_iadd hx hb dX8_count_108 ?_
            refine lv_istore_n (lv' := [(2, .int ((cntI (fun a => md_stood f a (n 0) (n 0)) a) + (1 : Int32))), (0, .ref h), (1, .int w), (3, .int (nI a))]) hx hb dX8_count_109 rfl hl (by decide) rfl (fun ls hl => ?_)
            refine lv_iinc (v := nI (a + 1)) (lv' := [(3, .int (nI (a + 1))), (2, .int ((cntI (fun a => md_stood f a (n 0) (n 0)) a) + (1 : Int32))), (0, .ref h), (1, .int w)]) hx hb dX8_count_110 hl (k := 3) rfl (nI_1 a) (by decide) rfl (fun ls hl => ?_)
            refine lv_goto (tgt := 78) hx hb dX8_count_113 (by decide) ?_
            exact ih (a + 1) ls _ _ (by omega) (by omega) hM hS (by have e : cntI (fun a => md_stood f a (n 0) (n 0)) (a + 1) = (cntI (fun a => md_stood f a (n 0) (n 0)) a) + (1 : Int32) := (by rw [cntI, pB_t (pB_iff.mp c3)]; rfl); rw [e]; exact lv_sub hl [2, 3, 1, 0] rfl)
    exact LP78 _ 0 ls _ _ (Nat.lt_succ_self _) (Nat.zero_le _) hM hS (lv_sub hl [2, 3, 1, 0] rfl)
  refine lv_tableOut (tgt := 118) hx hb dX8_count_1 (by have u_0 := lv_neT t_0 (a := 0) rfl; have u_1 := lv_neT t_1 (a := 1) rfl; have u_2 := lv_neT t_2 (a := 2) rfl; have u_3 := lv_neT t_3 (a := 3) rfl; have u_4 := lv_neT t_4 (a := 4) rfl; have u_5 := lv_neT t_5 (a := 5) rfl; have u_6 := lv_neT t_6 (a := 6) rfl; omega) (by decide) ?_
  refine lv_iconst (v := (-1 : Int32)) hx hb dX8_count_118 (by decide) ?_
  exact mp_iret hx hb hr hlocks (Nat.le_of_ble_eq_true rfl) (Nat.le_of_ble_eq_true rfl) hM hS dX8_count_119 (⟨by rw [md_count, if_neg t_0, if_neg t_1, if_neg t_2, if_neg t_3, if_neg t_4, if_neg t_5, if_neg t_6], rfl⟩)
