/-! ===== rules ===== -/
theorem md_zoneO_in {f : Nat → Nat → Int32} {p0 zm r z : Nat} (h : md_zoneO f p0 zm r = some z) : ∃ j, j < zm ∧ z = 8 * p0 + j := by
  rw [md_zoneO] at h
  cases hf : fst (fun j => zbit (f 18 (8 * p0 + j)) (nI r)) zm with
  | none => rw [hf] at h; cases h
  | some j => rw [hf] at h; cases h; exact ⟨j, (fst_some hf).1, rfl⟩
def md_tight (R : rg_R) (x0 y0 x1 y1 : Int32) (e : Int64) : Prop := ∃ i, i < R.2.2 ∧ (rg_reach R i x0 y0 e true ∨ rg_reach R i x1 y0 e true ∨ rg_reach R i x0 y1 e true ∨ rg_reach R i x1 y1 e true ∨
  rc_reach (R.1 i) (R.2.1 i) x0 y0 x1 y0 e true ∨ rc_reach (R.1 i) (R.2.1 i) x1 y0 x1 y1 e true ∨ rc_reach (R.1 i) (R.2.1 i) x0 y1 x1 y1 e true ∨ rc_reach (R.1 i) (R.2.1 i) x0 y0 x0 y1 e true)
def md_out (R : rg_R) (i : Nat) (x0 y0 x1 y1 : Int32) : Prop := rg_side R i x0 y0 < 0 ∨ rg_side R i x1 y0 < 0 ∨ rg_side R i x0 y1 < 0 ∨ rg_side R i x1 y1 < 0
noncomputable def md_cov (f : Nat → Nat → Int32) (r : Nat) (d k base : Int32) : Nat → Int32
  | 0 => base
  | a + 1 => if pB (f 23 a = nI r ∧ md_stood f a d k) then md_cov f r d k base a + (f 26 a - f 24 a) * (f 27 a - f 25 a) else md_cov f r d k base a
noncomputable def md_zo (f : Nat → Nat → Int32) (pn : Nat) (zmf : Nat → Nat) (r : Nat) (d k : Int32) : Option Nat := (bst (md_planP f d k) (f 15) pn).bind (fun q => md_zoneO f q (zmf q) r)
noncomputable def md_shade (f : Nat → Nat → Int32) (z : Nat) (ht : Int32) : Int32 := if pB (f 20 (4 * z + 3) = -1) then 0 else ht * f 20 (4 * z + 3) / 10
noncomputable def md_s8 (f : Nat → Nat → Int32) (ap r z : Nat) (x0 y0 x1 y1 ht us d k : Int32) : Int32 := if pB (∃ a, a < ap ∧ f 23 a ≠ nI r ∧ md_stood f a d k ∧ md_meets f a x0 y1 x1 (y1 + md_shade f z ht)) then 8 else 0
noncomputable def md_s7 (f : Nat → Nat → Int32) (ap r z : Nat) (x0 y0 x1 y1 ht us d k : Int32) : Int32 := if pB (∃ a, a < ap ∧ md_stood f a d k ∧ md_meets f a x0 y0 x1 y1) then 7 else md_s8 f ap r z x0 y0 x1 y1 ht us d k
noncomputable def md_s6 (f : Nat → Nat → Int32) (ap r cn z : Nat) (x0 y0 x1 y1 ht us d k : Int32) : Int32 := if pB (f 20 (4 * z + 2) ≠ -1 ∧ md_tight (md_rg f r cn) x0 y0 x1 y1 (f 20 (4 * z + 2)).toInt64) then 6 else md_s7 f ap r z x0 y0 x1 y1 ht us d k
noncomputable def md_s5 (f : Nat → Nat → Int32) (ap r cn z : Nat) (x0 y0 x1 y1 ht us d k : Int32) : Int32 := if pB (f 20 (4 * z + 1) ≠ -1 ∧ (f 20 (4 * z + 1)).toInt64 * (rg_area (md_rg f r cn)).toInt64 < 200 * (md_cov f r d k ((x1 - x0) * (y1 - y0)) ap).toInt64) then 5 else md_s6 f ap r cn z x0 y0 x1 y1 ht us d k
noncomputable def md_s4 (f : Nat → Nat → Int32) (ap r cn z : Nat) (x0 y0 x1 y1 ht us d k : Int32) : Int32 := if pB (f 20 (4 * z) ≠ -1 ∧ f 20 (4 * z) < ht) then 4 else md_s5 f ap r cn z x0 y0 x1 y1 ht us d k
noncomputable def md_s3 (f : Nat → Nat → Int32) (ap r cn z : Nat) (x0 y0 x1 y1 ht us d k : Int32) : Int32 := if pB (f 19 z >>> (us &&& 31) &&& 1 = 0) then 3 else md_s4 f ap r cn z x0 y0 x1 y1 ht us d k
noncomputable def md_broken (f : Nat → Nat → Int32) (pn ap : Nat) (zmf : Nat → Nat) (r cn : Nat) (x0 y0 x1 y1 ht us d k : Int32) : Int32 :=
  if pB (∃ i, i < cn ∧ md_out (md_rg f r cn) i x0 y0 x1 y1) then 1 else match md_zo f pn zmf r d k with
    | none => 2
    | some z => md_s3 f ap r cn z x0 y0 x1 y1 ht us d k
noncomputable def md_zoneV (f : Nat → Nat → Int32) (z : Nat) (w : Int32) : Int32 := if w = 0 then nI (z % 8) else if pB (md_in w 1 4) then f 20 (4 * z + w.toNatClampNeg - 1) else if pB (md_in w 10 17) then f 19 z >>> ((w - 10) &&& 31) &&& 1 else -1
noncomputable def md_zone (f : Nat → Nat → Int32) (pn pl : Nat) (zmf : Nat → Nat) (q1 q2 w : Int32) : Int32 :=
  if pB (md_in q1 0 (nI pn - 1) ∧ md_in q2 0 (nI pl - 1)) then match md_zoneO f q1.toNatClampNeg (zmf q1.toNatClampNeg) q2.toNatClampNeg with
    | none => -1
    | some z => md_zoneV f z w
  else -1
noncomputable def md_judge (f : Nat → Nat → Int32) (pl : Nat) (co : Nat → Nat) (pn ap : Nat) (zmf : Nat → Nat) (q x0 y0 x1 y1 ht us d k : Int32) : Int32 :=
  if pB (md_in q 0 (nI pl - 1) ∧ md_design x0 y0 x1 y1 ht us ∧ md_in d 0 9999 ∧ md_in k 0 9999) then md_broken f pn ap zmf q.toNatClampNeg (co q.toNatClampNeg) x0 y0 x1 y1 ht us d k else -1
abbrev rmX8_zone : Room := { frames := 2, cells := 0, slots := 0, locals := 43 }
set_option maxHeartbeats 4000000 in
set_option maxRecDepth 100000 in
theorem c_X8_zone (l : Launch) (X : mp_X) (G : mp_G) (A : Nat → Prop) (B : mp_M) (h : Nat) (ad : Nat → Nat) (n : Nat → Int32) (f : Nat → Nat → Int32) (pn : Nat) (hpn : n 3 = nI pn) (hpn9 : pn ≤ 20) (zmf : Nat → Nat) (hzmf : ∀ o, o < pn → f 17 o = nI (zmf o) ∧ zmf o ≤ 8) (pl : Nat) (hpl : n 1 = nI pl) (hpl9 : pl ≤ 12) (q1 q2 w : Int32) : mp_Met l X G A yX8_zone wsX8_zone rmX8_zone ([.ref h, .int q1, .int q2, .int w] : List Value) (md_M G B h ad n f) (fun v M1 => v = some (.int (md_zone f pn pl zmf q1 q2 w)) ∧ M1 = md_M G B h ad n f) 0 0 := by
  refine mp_ofW (cc := cX8_zone) (maxL := 5) (ret := (some .int)) (by decide) rfl (Nat.le_of_ble_eq_true rfl) ?_
  intro p e s m below meth c ls hx hb hr hts hown hlocks hnm hml hC hM hS hl
  have hl : lv_has ls 5 [(0, .ref h), (1, .int q1), (2, .int q2), (3, .int w)] := hl
  have hown : s.vm.findClass RX8 = some m.cls := hown
  have fl_219 := hts (.fieldLink RX8 219 "PlanningBenchModel" "plans" "I") (List.mem_of_getElem? (i := 1) rfl)
  have hin_wsX80 : ∀ w ∈ wsX80, w ∈ wsX8_zone := fun _ h => List.mem_cons_of_mem _ (List.mem_append_right _ h)
  have fl_42 := hts (.fieldLink RX8 42 "PlanningBenchModel" "zoneUses" "[I") (List.mem_of_getElem? (i := 3) rfl)
  have fl_45 := hts (.fieldLink RX8 45 "PlanningBenchModel" "zoneNumber" "[I") (List.mem_of_getElem? (i := 2) rfl)
  refine lv_iload_n hx hb dX8_zone_0 rfl (lv_at hl 1 rfl) ?_
  refine lv_iconst (v := (0 : Int32)) hx hb dX8_zone_1 (by decide) ?_
  refine lv_aload_n hx hb dX8_zone_2 rfl (lv_at hl 0 rfl) ?_
  refine md_geti hx hb hts hin_wsX80 hown hC hM 3 (by decide) rfl fl_219 dX8_zone_3 ?_
  refine lv_iconst (v := (1 : Int32)) hx hb dX8_zone_6 (by decide) ?_
  refine lv_isub hx hb dX8_zone_7 ?_
  refine mp_calli (va_runS (As := [.int q1, .int (0 : Int32), .int ((n 3) - (1 : Int32))]) (rest := []) ⟨hx, hb, hml, hown, hts⟩ (c_X8_isIn l X G A (md_M G B h ad n f) q1 (0 : Int32) ((n 3) - (1 : Int32))) (va_cwS 3 hts gX8_zone_X8_isIn rfl rfl rfl (by decide +kernel) ⟨Nat.le_of_ble_eq_true rfl, Nat.le_of_ble_eq_true rfl⟩) (mp_preS hC hS hM) rfl rfl hl.1 rfl (lv_room (Nat.le_of_ble_eq_true rfl)) dX8_zone_8 ⟨Nat.le_of_ble_eq_true rfl, Nat.le_of_ble_eq_true rfl⟩) hS (fun H locs hM hS => ?_)
  refine lv_if_eq (tgt := 22) hx hb dX8_zone_11 (by decide) (fun c1 => ?_) (fun c1 => ?_)
  · have c1 : (pB (md_in q1 (0 : Int32) ((n 3) - (1 : Int32)))) = false := bI_0.mp c1
    refine lv_iconst (v := (-1 : Int32)) hx hb dX8_zone_22 (by decide) ?_
    exact mp_iret hx hb hr hlocks (Nat.le_of_ble_eq_true rfl) (Nat.le_of_ble_eq_true rfl) hM hS dX8_zone_23 (⟨by rw [md_zone, pB_f]; rfl; intro q; first | exact pB_not.mp c1 (by rw [hpn]; exact q.1) | exact pB_not.mp c2 (by rw [hpl]; exact q.2), rfl⟩)
  · have c1 : (pB (md_in q1 (0 : Int32) ((n 3) - (1 : Int32)))) = true := bI_1.mp c1
    refine lv_aload_n hx hb dX8_zone_14 rfl (lv_at hl 0 rfl) ?_
    refine lv_iload_n hx hb dX8_zone_15 rfl (lv_at hl 2 rfl) ?_
    refine mp_calli (va_runV (As := [.int q2]) (rest := []) ⟨hx, hb, hml, hown, hts⟩ (c_X8_isPlot l X G A B h ad n f q2) (cwV 1 hts gX8_zone_X8_isPlot rfl rfl rfl (by decide +kernel) ⟨Nat.le_of_ble_eq_true rfl, Nat.le_of_ble_eq_true rfl⟩) (mp_preV hC hS hM (md_recv hC hM)) rfl rfl hl.1 rfl (lv_room (Nat.le_of_ble_eq_true rfl)) dX8_zone_16 ⟨Nat.le_of_ble_eq_true rfl, Nat.le_of_ble_eq_true rfl⟩) hS (fun H locs hM hS => ?_)
    refine lv_if_ne (tgt := 24) hx hb dX8_zone_19 (by decide) (fun c2 => ?_) (fun c2 => ?_)
    · have c2 : (pB (md_in q2 0 (n 1 - 1))) = true := bI_1.mp c2
      obtain ⟨p0, hp0, e1⟩ := md_nat (k := pn) (by omega) (by have z := pB_iff.mp c1; rw [hpn] at z; exact z)
      obtain ⟨r, hr0, e2⟩ := md_nat (k := pl) (by omega) (by have z := pB_iff.mp c2; rw [hpl] at z; exact z)
      subst e1; subst e2
      have g1 := hzmf p0 hp0
      have ecl1 : (nI p0).toNatClampNeg = p0 := nI_clamp (by omega)
      have ecl2 : (nI r).toNatClampNeg = r := nI_clamp (by omega)
      have E : md_zone f pn pl zmf (nI p0) (nI r) w = match md_zoneO f p0 (zmf p0) r with | none => -1 | some z => md_zoneV f z w := by rw [md_zone, pB_t ⟨by rw [← hpn]; exact pB_iff.mp c1, by rw [← hpl]; exact pB_iff.mp c2⟩, if_pos rfl, ecl1, ecl2]
      refine lv_aload_n hx hb dX8_zone_24 rfl (lv_at hl 0 rfl) ?_
      refine lv_iload_n hx hb dX8_zone_25 rfl (lv_at hl 1 rfl) ?_
      refine lv_iload_n hx hb dX8_zone_26 rfl (lv_at hl 2 rfl) ?_
      refine mp_calli (va_runV (As := [.int (nI p0), .int (nI r)]) (rest := []) ⟨hx, hb, hml, hown, hts⟩ (c_X8_zoneOf l X G A B h ad n f p0 (zmf p0) r (by omega) g1.1 g1.2) (cwV 2 hts gX8_zone_X8_zoneOf rfl rfl rfl (by decide +kernel) ⟨Nat.le_of_ble_eq_true rfl, Nat.le_of_ble_eq_true rfl⟩) (mp_preV hC hS hM (md_recv hC hM)) rfl rfl hl.1 rfl (lv_room (Nat.le_of_ble_eq_true rfl)) dX8_zone_27 ⟨Nat.le_of_ble_eq_true rfl, Nat.le_of_ble_eq_true rfl⟩) hS (fun H locs hM hS => ?_)
      refine lv_istore (lv' := [(4, .int (oI (md_zoneO f p0 (zmf p0) r))), (0, .ref h), (1, .int (nI p0)), (2, .int (nI r)), (3, .int w)]) hx hb dX8_zone_30 hl (by decide) rfl (fun ls hl => ?_)
      rcases ho_1 : md_zoneO f p0 (zmf p0) r with _ | z
      · have ho_1e : oI (md_zoneO f p0 (zmf p0) r) = (-1 : Int32) := by rw [ho_1]; rfl
        rw [ho_1] at E
        have E : md_zone f pn pl zmf (nI p0) (nI r) w = -1 := E
        rw [ho_1e] at hl
        refine lv_iload hx hb dX8_zone_32 (lv_at hl 0 rfl) ?_
        refine lv_iconst (v := (-1 : Int32)) hx hb dX8_zone_34 (by decide) ?_
        refine lv_icmp_ne (tgt := 40) hx hb dX8_zone_35 (by decide) (fun c3 => ?_) (fun c3 => ?_)
        · have c3 := c3
          exact absurd c3 (fun z => z rfl)
        · have c3 := c3
          refine lv_iconst (v := (-1 : Int32)) hx hb dX8_zone_38 (by decide) ?_
          exact mp_iret hx hb hr hlocks (Nat.le_of_ble_eq_true rfl) (Nat.le_of_ble_eq_true rfl) hM hS dX8_zone_39 (⟨by rw [E], rfl⟩)
      · have ho_1e : oI (md_zoneO f p0 (zmf p0) r) = nI z := by rw [ho_1]; rfl
        rw [ho_1] at E
        have E : md_zone f pn pl zmf (nI p0) (nI r) w = md_zoneV f z w := E
        obtain ⟨j, hj, ez⟩ := md_zoneO_in ho_1
        rw [ho_1e] at hl
        refine lv_iload hx hb dX8_zone_32 (lv_at hl 0 rfl) ?_
        refine lv_iconst (v := (-1 : Int32)) hx hb dX8_zone_34 (by decide) ?_
        refine lv_icmp_ne (tgt := 40) hx hb dX8_zone_35 (by decide) (fun c3 => ?_) (fun c3 => ?_)
        · have c3 := c3
          refine lv_iload_n hx hb dX8_zone_40 rfl (lv_at hl 4 rfl) ?_
          refine lv_if_ne (tgt := 50) hx hb dX8_zone_41 (by decide) (fun c4 => ?_) (fun c4 => ?_)
          · have c4 := c4
            refine lv_iload_n hx hb dX8_zone_50 rfl (lv_at hl 4 rfl) ?_
            refine lv_iconst (v := (1 : Int32)) hx hb dX8_zone_51 (by decide) ?_
            refine lv_iconst (v := (4 : Int32)) hx hb dX8_zone_52 (by decide) ?_
            refine mp_calli (va_runS (As := [.int w, .int (1 : Int32), .int (4 : Int32)]) (rest := []) ⟨hx, hb, hml, hown, hts⟩ (c_X8_isIn l X G A (md_M G B h ad n f) w (1 : Int32) (4 : Int32)) (va_cwS 3 hts gX8_zone_X8_isIn rfl rfl rfl (by decide +kernel) ⟨Nat.le_of_ble_eq_true rfl, Nat.le_of_ble_eq_true rfl⟩) (mp_preS hC hS hM) rfl rfl hl.1 rfl (lv_room (Nat.le_of_ble_eq_true rfl)) dX8_zone_53 ⟨Nat.le_of_ble_eq_true rfl, Nat.le_of_ble_eq_true rfl⟩) hS (fun H locs hM hS => ?_)
            refine lv_if_eq (tgt := 73) hx hb dX8_zone_56 (by decide) (fun c5 => ?_) (fun c5 => ?_)
            · have c5 : (pB (md_in w (1 : Int32) (4 : Int32))) = false := bI_0.mp c5
              refine lv_iload_n hx hb dX8_zone_73 rfl (lv_at hl 4 rfl) ?_
              refine lv_bipush (v := (10 : Int32)) hx hb dX8_zone_74 (by decide) ?_
              refine lv_bipush (v := (17 : Int32)) hx hb dX8_zone_76 (by decide) ?_
              refine mp_calli (va_runS (As := [.int w, .int (10 : Int32), .int (17 : Int32)]) (rest := []) ⟨hx, hb, hml, hown, hts⟩ (c_X8_isIn l X G A (md_M G B h ad n f) w (10 : Int32) (17 : Int32)) (va_cwS 3 hts gX8_zone_X8_isIn rfl rfl rfl (by decide +kernel) ⟨Nat.le_of_ble_eq_true rfl, Nat.le_of_ble_eq_true rfl⟩) (mp_preS hC hS hM) rfl rfl hl.1 rfl (lv_room (Nat.le_of_ble_eq_true rfl)) dX8_zone_78 ⟨Nat.le_of_ble_eq_true rfl, Nat.le_of_ble_eq_true rfl⟩) hS (fun H locs hM hS => ?_)
              refine lv_if_eq (tgt := 101) hx hb dX8_zone_81 (by decide) (fun c6 => ?_) (fun c6 => ?_)
              · have c6 : (pB (md_in w (10 : Int32) (17 : Int32))) = false := bI_0.mp c6
                refine lv_iconst (v := (-1 : Int32)) hx hb dX8_zone_101 (by decide) ?_
                exact mp_iret hx hb hr hlocks (Nat.le_of_ble_eq_true rfl) (Nat.le_of_ble_eq_true rfl) hM hS dX8_zone_102 (⟨by rw [E, md_zoneV, if_neg c4, c5, if_neg (by decide), c6]; rfl, rfl⟩)
              · have c6 : (pB (md_in w (10 : Int32) (17 : Int32))) = true := bI_1.mp c6
                refine lv_aload_n hx hb dX8_zone_84 rfl (lv_at hl 1 rfl) ?_
                refine md_getr hx hb hts hin_wsX80 hown hC hM 19 (by decide) rfl fl_42 dX8_zone_85 ?_
                refine lv_iload hx hb dX8_zone_88 (lv_at hl 0 rfl) ?_
                refine md_iald hx hb hC hM 19 rfl (j := z) (by omega) (by decide) dX8_zone_90 ?_
                refine lv_iload_n hx hb dX8_zone_91 rfl (lv_at hl 4 rfl) ?_
                refine lv_bipush (v := (10 : Int32)) hx hb dX8_zone_92 (by decide) ?_
                refine lv_isub hx hb dX8_zone_94 ?_
                refine lv_ishr hx hb dX8_zone_95 ?_
                refine lv_iconst (v := (1 : Int32)) hx hb dX8_zone_96 (by decide) ?_
                refine lv_iand hx hb dX8_zone_97 ?_
                refine lv_goto (tgt := 102) hx hb dX8_zone_98 (by decide) ?_
                exact mp_iret hx hb hr hlocks (Nat.le_of_ble_eq_true rfl) (Nat.le_of_ble_eq_true rfl) hM hS dX8_zone_102 (⟨by rw [E, md_zoneV, if_neg c4, c5, if_neg (by decide), c6]; rfl, rfl⟩)
            · have c5 : (pB (md_in w (1 : Int32) (4 : Int32))) = true := bI_1.mp c5
              obtain ⟨w0, hw0, e_w⟩ := nI_of (x := w) (i_nlt.mpr ((i_le _ _).mpr (Int.le_trans (by decide) ((i_le _ _).mp (pB_iff.mp c5).1))))
              subst e_w
              have hw1 := (pB_iff.mp c5)
              have hwa : 1 ≤ w0 := nn_le (a := 1) (b := w0) (by omega) hw0 hw1.1
              have hwb : w0 ≤ 4 := nn_le (a := w0) (b := 4) hw0 (by omega) hw1.2
              refine lv_aload_n hx hb dX8_zone_59 rfl (lv_at hl 1 rfl) ?_
              refine md_getr hx hb hts hin_wsX80 hown hC hM 20 (by decide) rfl fl_45 dX8_zone_60 ?_
              refine lv_iconst (v := (4 : Int32)) hx hb dX8_zone_63 (by decide) ?_
              refine lv_iload hx hb dX8_zone_64 (lv_at hl 0 rfl) ?_
              refine lv_imul hx hb dX8_zone_66 ?_
              refine mp_top (nI (4 * z)) (pk_mul 4 z) ?_
              refine lv_iload_n hx hb dX8_zone_67 rfl (lv_at hl 4 rfl) ?_
              refine lv_iadd hx hb dX8_zone_68 ?_
              refine mp_top (nI ((4 * z) + w0)) (nI_add (4 * z) w0) ?_
              refine lv_iconst (v := (1 : Int32)) hx hb dX8_zone_69 (by decide) ?_
              refine lv_isub hx hb dX8_zone_70 ?_
              refine mp_top (nI (((4 * z) + w0) - 1)) (pk_sub (a := (4 * z) + w0) (b := 1) (by omega)) ?_
              refine md_iald hx hb hC hM 20 rfl (j := ((4 * z) + w0) - 1) (by omega) (by decide) dX8_zone_71 ?_
              exact mp_iret hx hb hr hlocks (Nat.le_of_ble_eq_true rfl) (Nat.le_of_ble_eq_true rfl) hM hS dX8_zone_72 (⟨by rw [E, md_zoneV, if_neg c4, c5, if_pos rfl, nI_clamp hw0], rfl⟩)
          · have c4 := c4
            refine lv_iload hx hb dX8_zone_44 (lv_at hl 0 rfl) ?_
            refine lv_bipush (v := (8 : Int32)) hx hb dX8_zone_46 (by decide) ?_
            refine lv_irem hx hb dX8_zone_48 (nI_ne0 (n := 8) (by omega) (by omega)) ?_
            refine mp_top (nI (z % 8)) (pk_rem (a := z) (d := 8) (by omega) (by omega) (by omega)) ?_
            exact mp_iret hx hb hr hlocks (Nat.le_of_ble_eq_true rfl) (Nat.le_of_ble_eq_true rfl) hM hS dX8_zone_49 (⟨by rw [E, md_zoneV, if_pos c4], rfl⟩)
        · have c3 := c3
          exact absurd c3 (nI_nm1 (by omega))
    · have c2 : (pB (md_in q2 0 (n 1 - 1))) = false := bI_0.mp c2
      refine lv_iconst (v := (-1 : Int32)) hx hb dX8_zone_22 (by decide) ?_
      exact mp_iret hx hb hr hlocks (Nat.le_of_ble_eq_true rfl) (Nat.le_of_ble_eq_true rfl) hM hS dX8_zone_23 (⟨by rw [md_zone, pB_f]; rfl; intro q; first | exact pB_not.mp c1 (by rw [hpn]; exact q.1) | exact pB_not.mp c2 (by rw [hpl]; exact q.2), rfl⟩)
abbrev rmX8_isTight : Room := { frames := 1, cells := 0, slots := 0, locals := 48 }
set_option maxHeartbeats 4000000 in
set_option maxRecDepth 100000 in
theorem c_X8_isTight (l : Launch) (X : mp_X) (G : mp_G) (A : Nat → Prop) (B : mp_M) (h : Nat) (ad : Nat → Nat) (n : Nat → Int32) (f : Nat → Nat → Int32) (r cn : Nat) (hr9 : r < 13) (hcn0 : 0 < cn) (hcn8 : cn ≤ 8) (hcn : f 6 r = nI cn) (x0 y0 x1 y1 eg : Int32) : mp_Met l X G A yX8_isTight wsX8_isTight rmX8_isTight ([.ref h, .int (nI r), .int x0, .int y0, .int x1, .int y1, .int eg] : List Value) (md_M G B h ad n f) (fun v M1 => v = some (.int (bI (pB (md_tight (md_rg f r cn) x0 y0 x1 y1 eg.toInt64)))) ∧ M1 = md_M G B h ad n f) 0 0 := by
  refine mp_ofW (cc := cX8_isTight) (maxL := 12) (ret := (some .boolean)) (by decide) rfl (Nat.le_of_ble_eq_true rfl) ?_
  intro p e s m below meth c ls hx hb hr hts hown hlocks hnm hml hC hM hS hl
  have hl : lv_has ls 12 [(0, .ref h), (1, .int (nI r)), (2, .int x0), (3, .int y0), (4, .int x1), (5, .int y1), (6, .int eg)] := hl
  have hown : s.vm.findClass RX8 = some m.cls := hown
  have fl_7 := hts (.fieldLink RX8 7 "PlanningBenchModel" "corners" "[I") (List.mem_of_getElem? (i := 1) rfl)
  have hin_wsX80 : ∀ w ∈ wsX80, w ∈ wsX8_isTight := fun _ h => List.mem_cons_of_mem _ (List.mem_append_right _ h)
  have fl_13 := hts (.fieldLink RX8 13 "PlanningBenchModel" "xs" "[I") (List.mem_of_getElem? (i := 2) rfl)
  have fl_16 := hts (.fieldLink RX8 16 "PlanningBenchModel" "ys" "[I") (List.mem_of_getElem? (i := 3) rfl)
  refine lv_iconst (v := (0 : Int32)) hx hb dX8_isTight_0 (by decide) ?_
  refine lv_istore (lv' := [(7, .int (0 : Int32)), (0, .ref h), (1, .int (nI r)), (2, .int x0), (3, .int y0), (4, .int x1), (5, .int y1), (6, .int eg)]) hx hb dX8_isTight_1 hl (by decide) rfl (fun ls hl => ?_)
  have LP3 : ∀ (kk : Nat) (i : Nat) (ls : Array Slot) (H : Heap) (locs : List Loc), cn - i < kk → i ≤ cn → (∀ u, u < i → ¬ (rg_reach (md_rg f r cn) u x0 y0 eg.toInt64 true ∨ rg_reach (md_rg f r cn) u x1 y0 eg.toInt64 true ∨ rg_reach (md_rg f r cn) u x0 y1 eg.toInt64 true ∨ rg_reach (md_rg f r cn) u x1 y1 eg.toInt64 true ∨ rc_reach (f 7 (8 * r + u)) (f 8 (8 * r + u)) x0 y0 x1 y0 eg.toInt64 true ∨ rc_reach (f 7 (8 * r + u)) (f 8 (8 * r + u)) x1 y0 x1 y1 eg.toInt64 true ∨ rc_reach (f 7 (8 * r + u)) (f 8 (8 * r + u)) x0 y1 x1 y1 eg.toInt64 true ∨ rc_reach (f 7 (8 * r + u)) (f 8 (8 * r + u)) x0 y0 x0 y1 eg.toInt64 true)) → mp_P G.1 A (md_M G B h ad n f) H → va_S A s.heap H locs → lv_has ls 12 [(0, .ref h), (1, .int (nI r)), (2, .int x0), (3, .int y0), (4, .int x1), (5, .int y1), (6, .int eg), (7, .int (nI i))] → W p l e rmX8_isTight s m ([.ref h, .int (nI r), .int x0, .int y0, .int x1, .int y1, .int eg] : List Value).toArray below meth c H locs 0 0 (MQ below (mp_Q G.1 A (fun v M1 => v = some (.int (bI (pB (md_tight (md_rg f r cn) x0 y0 x1 y1 eg.toInt64)))) ∧ M1 = md_M G B h ad n f)) ([.ref h, .int (nI r), .int x0, .int y0, .int x1, .int y1, .int eg] : List Value).toArray s 0 0 A) (F0 m 3 ls []) := by
    intro kk
    induction kk with
    | zero => intro i ls H locs hk; exact absurd hk (Nat.not_lt_zero _)
    | succ kk ih =>
      intro i ls H locs hk hi hinv hM hS hl
      have hmod : (i + 1) % cn < cn := Nat.mod_lt _ (by omega)
      refine lv_iload hx hb dX8_isTight_3 (lv_at hl 7 rfl) ?_
      refine lv_aload_n hx hb dX8_isTight_5 rfl (lv_at hl 0 rfl) ?_
      refine md_getr hx hb hts hin_wsX80 hown hC hM 6 (by decide) rfl fl_7 dX8_isTight_6 ?_
      refine lv_iload_n hx hb dX8_isTight_9 rfl (lv_at hl 1 rfl) ?_
      refine md_iald hx hb hC hM 6 rfl (j := r) (by omega) (by decide) dX8_isTight_10 ?_
      refine mp_top (nI cn) hcn ?_
      refine lv_icmp_ge (tgt := 315) hx hb dX8_isTight_11 (by decide) (fun hlt => ?_) (fun hlt => ?_)
      · have hlt := nn_le (a := cn) (b := i) (by omega) (by omega) hlt
        refine lv_iconst (v := (0 : Int32)) hx hb dX8_isTight_315 (by decide) ?_
        exact mp_zret hx hb hr hlocks (Nat.le_of_ble_eq_true rfl) (Nat.le_of_ble_eq_true rfl) hM hS dX8_isTight_316 (by first | rfl | exact bI_nar _) (⟨b0 (fun ⟨u, hu, q⟩ => hinv u (by have hu : u < cn := hu; omega) q), rfl⟩)
      · have hlt := nn_nle (a := cn) (b := i) (by omega) (by omega) hlt
        refine lv_bipush (v := (8 : Int32)) hx hb dX8_isTight_14 (by decide) ?_
        refine lv_iload_n hx hb dX8_isTight_16 rfl (lv_at hl 1 rfl) ?_
        refine lv_imul hx hb dX8_isTight_17 ?_
        refine mp_top (nI (8 * r)) (pk_mul 8 r) ?_
        refine lv_iload hx hb dX8_isTight_18 (lv_at hl 7 rfl) ?_
        refine lv_iadd hx hb dX8_isTight_20 ?_
        refine mp_top (nI ((8 * r) + i)) (nI_add (8 * r) i) ?_
        refine lv_istore (lv' := [(8, .int (nI ((8 * r) + i))), (0, .ref h), (1, .int (nI r)), (2, .int x0), (3, .int y0), (4, .int x1), (5, .int y1), (6, .int eg), (7, .int (nI i))]) hx hb dX8_isTight_21 hl (by decide) rfl (fun ls hl => ?_)
        refine lv_bipush (v := (8 : Int32)) hx hb dX8_isTight_23 (by decide) ?_
        refine lv_iload_n hx hb dX8_isTight_25 rfl (lv_at hl 2 rfl) ?_
        refine lv_imul hx hb dX8_isTight_26 ?_
        refine mp_top (nI (8 * r)) (pk_mul 8 r) ?_
        refine lv_iload hx hb dX8_isTight_27 (lv_at hl 8 rfl) ?_
        refine lv_iconst (v := (1 : Int32)) hx hb dX8_isTight_29 (by decide) ?_
        refine lv_iadd hx hb dX8_isTight_30 ?_
        refine mp_top (nI (i + 1)) (nI_add i 1) ?_
        refine lv_aload_n hx hb dX8_isTight_31 rfl (lv_at hl 1 rfl) ?_
        refine md_getr hx hb hts hin_wsX80 hown hC hM 6 (by decide) rfl fl_7 dX8_isTight_32 ?_
        refine lv_iload_n hx hb dX8_isTight_35 rfl (lv_at hl 2 rfl) ?_
        refine md_iald hx hb hC hM 6 rfl (j := r) (by omega) (by decide) dX8_isTight_36 ?_
        refine mp_top (nI cn) hcn ?_
        refine lv_irem hx hb dX8_isTight_37 (nI_ne0 (n := cn) (by omega) (by omega)) ?_
        refine mp_top (nI ((i + 1) % cn)) (pk_rem (a := i + 1) (d := cn) (by omega) (by omega) (by omega)) ?_
        refine lv_iadd hx hb dX8_isTight_38 ?_
        refine mp_top (nI ((8 * r) + ((i + 1) % cn))) (nI_add (8 * r) ((i + 1) % cn)) ?_
        refine lv_istore (lv' := [(9, .int (nI ((8 * r) + ((i + 1) % cn)))), (8, .int (nI ((8 * r) + i))), (0, .ref h), (1, .int (nI r)), (2, .int x0), (3, .int y0), (4, .int x1), (5, .int y1), (6, .int eg), (7, .int (nI i))]) hx hb dX8_isTight_39 hl (by decide) rfl (fun ls hl => ?_)
        refine lv_iload_n hx hb dX8_isTight_41 rfl (lv_at hl 4 rfl) ?_
        refine lv_iload_n hx hb dX8_isTight_42 rfl (lv_at hl 5 rfl) ?_
        refine lv_aload_n hx hb dX8_isTight_43 rfl (lv_at hl 2 rfl) ?_
        refine md_getr hx hb hts hin_wsX80 hown hC hM 7 (by decide) rfl fl_13 dX8_isTight_44 ?_
        refine lv_iload hx hb dX8_isTight_47 (lv_at hl 1 rfl) ?_
        refine md_iald hx hb hC hM 7 rfl (j := (8 * r) + i) (by omega) (by decide) dX8_isTight_49 ?_
        refine lv_aload_n hx hb dX8_isTight_50 rfl (lv_at hl 2 rfl) ?_
        refine md_getr hx hb hts hin_wsX80 hown hC hM 8 (by decide) rfl fl_16 dX8_isTight_51 ?_
        refine lv_iload hx hb dX8_isTight_54 (lv_at hl 1 rfl) ?_
        refine md_iald hx hb hC hM 8 rfl (j := (8 * r) + i) (by omega) (by decide) dX8_isTight_56 ?_
        refine lv_aload_n hx hb dX8_isTight_57 rfl (lv_at hl 2 rfl) ?_
        refine md_getr hx hb hts hin_wsX80 hown hC hM 7 (by decide) rfl fl_13 dX8_isTight_58 ?_
        refine lv_iload hx hb dX8_isTight_61 (lv_at hl 0 rfl) ?_
        refine md_iald hx hb hC hM 7 rfl (j := (8 * r) + ((i + 1) % cn)) (by omega) (by decide) dX8_isTight_63 ?_
        refine lv_aload_n hx hb dX8_isTight_64 rfl (lv_at hl 2 rfl) ?_
        refine md_getr hx hb hts hin_wsX80 hown hC hM 8 (by decide) rfl fl_16 dX8_isTight_65 ?_
        refine lv_iload hx hb dX8_isTight_68 (lv_at hl 0 rfl) ?_
        refine md_iald hx hb hC hM 8 rfl (j := (8 * r) + ((i + 1) % cn)) (by omega) (by decide) dX8_isTight_70 ?_
        refine lv_iload hx hb dX8_isTight_71 (lv_at hl 8 rfl) ?_
        refine lv_i2l hx hb dX8_isTight_73 rfl ?_
        refine lv_iconst (v := (1 : Int32)) hx hb dX8_isTight_74 (by decide) ?_
        refine mp_calli (va_runS (As := [.int x0, .int y0, .int (f 7 ((8 * r) + i)), .int (f 8 ((8 * r) + i)), .int (f 7 ((8 * r) + ((i + 1) % cn))), .int (f 8 ((8 * r) + ((i + 1) % cn))), .long eg.toInt64, .int (1 : Int32)]) (rest := []) ⟨hx, hb, hml, hown, hts⟩ (c_X8_reaches l X G A (md_M G B h ad n f) x0 y0 (f 7 ((8 * r) + i)) (f 8 ((8 * r) + i)) (f 7 ((8 * r) + ((i + 1) % cn))) (f 8 ((8 * r) + ((i + 1) % cn))) eg.toInt64 (1 : Int32) true rfl) (va_cwS 8 hts gX8_isTight_X8_reaches rfl rfl rfl (by decide +kernel) ⟨Nat.le_of_ble_eq_true rfl, Nat.le_of_ble_eq_true rfl⟩) (mp_preS hC hS hM) rfl rfl hl.1 rfl (lv_room (Nat.le_of_ble_eq_true rfl)) dX8_isTight_75 ⟨Nat.le_of_ble_eq_true rfl, Nat.le_of_ble_eq_true rfl⟩) hS (fun H locs hM hS => ?_)
        refine lv_if_ne (tgt := 122) hx hb dX8_isTight_78 (by decide) (fun c1 => ?_) (fun c1 => ?_)
        · have c1 : (pB (rc_reach x0 y0 (f 7 ((8 * r) + i)) (f 8 ((8 * r) + i)) (f 7 ((8 * r) + ((i + 1) % cn))) (f 8 ((8 * r) + ((i + 1) % cn))) eg.toInt64 true)) = true := bI_1.mp c1
          refine lv_iconst (v := (1 : Int32)) hx hb dX8_isTight_122 (by decide) ?_
          exact mp_zret hx hb hr hlocks (Nat.le_of_ble_eq_true rfl) (Nat.le_of_ble_eq_true rfl) hM hS dX8_isTight_123 (by first | rfl | exact bI_nar _) (⟨b1 ⟨i, hlt, (fun q => Or.inl q) (pB_iff.mp c1)⟩, rfl⟩)
        · have c1 : (pB (rc_reach x0 y0 (f 7 ((8 * r) + i)) (f 8 ((8 * r) + i)) (f 7 ((8 * r) + ((i + 1) % cn))) (f 8 ((8 * r) + ((i + 1) % cn))) eg.toInt64 true)) = false := bI_0.mp c1
          refine lv_iload hx hb dX8_isTight_81 (lv_at hl 6 rfl) ?_
          refine lv_iload_n hx hb dX8_isTight_83 rfl (lv_at hl 5 rfl) ?_
          refine lv_aload_n hx hb dX8_isTight_84 rfl (lv_at hl 2 rfl) ?_
          refine md_getr hx hb hts hin_wsX80 hown hC hM 7 (by decide) rfl fl_13 dX8_isTight_85 ?_
          refine lv_iload hx hb dX8_isTight_88 (lv_at hl 1 rfl) ?_
          refine md_iald hx hb hC hM 7 rfl (j := (8 * r) + i) (by omega) (by decide) dX8_isTight_90 ?_
          refine lv_aload_n hx hb dX8_isTight_91 rfl (lv_at hl 2 rfl) ?_
          refine md_getr hx hb hts hin_wsX80 hown hC hM 8 (by decide) rfl fl_16 dX8_isTight_92 ?_
          refine lv_iload hx hb dX8_isTight_95 (lv_at hl 1 rfl) ?_
          refine md_iald hx hb hC hM 8 rfl (j := (8 * r) + i) (by omega) (by decide) dX8_isTight_97 ?_
          refine lv_aload_n hx hb dX8_isTight_98 rfl (lv_at hl 2 rfl) ?_
          refine md_getr hx hb hts hin_wsX80 hown hC hM 7 (by decide) rfl fl_13 dX8_isTight_99 ?_
          refine lv_iload hx hb dX8_isTight_102 (lv_at hl 0 rfl) ?_
          refine md_iald hx hb hC hM 7 rfl (j := (8 * r) + ((i + 1) % cn)) (by omega) (by decide) dX8_isTight_104 ?_
          refine lv_aload_n hx hb dX8_isTight_105 rfl (lv_at hl 2 rfl) ?_
          refine md_getr hx hb hts hin_wsX80 hown hC hM 8 (by decide) rfl fl_16 dX8_isTight_106 ?_
          refine lv_iload hx hb dX8_isTight_109 (lv_at hl 0 rfl) ?_
          refine md_iald hx hb hC hM 8 rfl (j := (8 * r) + ((i + 1) % cn)) (by omega) (by decide) dX8_isTight_111 ?_
          refine lv_iload hx hb dX8_isTight_112 (lv_at hl 8 rfl) ?_
          refine lv_i2l hx hb dX8_isTight_114 rfl ?_
          refine lv_iconst (v := (1 : Int32)) hx hb dX8_isTight_115 (by decide) ?_
          refine mp_calli (va_runS (As := [.int x1, .int y0, .int (f 7 ((8 * r) + i)), .int (f 8 ((8 * r) + i)), .int (f 7 ((8 * r) + ((i + 1) % cn))), .int (f 8 ((8 * r) + ((i + 1) % cn))), .long eg.toInt64, .int (1 : Int32)]) (rest := []) ⟨hx, hb, hml, hown, hts⟩ (c_X8_reaches l X G A (md_M G B h ad n f) x1 y0 (f 7 ((8 * r) + i)) (f 8 ((8 * r) + i)) (f 7 ((8 * r) + ((i + 1) % cn))) (f 8 ((8 * r) + ((i + 1) % cn))) eg.toInt64 (1 : Int32) true rfl) (va_cwS 8 hts gX8_isTight_X8_reaches rfl rfl rfl (by decide +kernel) ⟨Nat.le_of_ble_eq_true rfl, Nat.le_of_ble_eq_true rfl⟩) (mp_preS hC hS hM) rfl rfl hl.1 rfl (lv_room (Nat.le_of_ble_eq_true rfl)) dX8_isTight_116 ⟨Nat.le_of_ble_eq_true rfl, Nat.le_of_ble_eq_true rfl⟩) hS (fun H locs hM hS => ?_)
          refine lv_if_eq (tgt := 124) hx hb dX8_isTight_119 (by decide) (fun c2 => ?_) (fun c2 => ?_)
          · have c2 : (pB (rc_reach x1 y0 (f 7 ((8 * r) + i)) (f 8 ((8 * r) + i)) (f 7 ((8 * r) + ((i + 1) % cn))) (f 8 ((8 * r) + ((i + 1) % cn))) eg.toInt64 true)) = false := bI_0.mp c2
            refine lv_iload_n hx hb dX8_isTight_124 rfl (lv_at hl 4 rfl) ?_
            refine lv_iload hx hb dX8_isTight_125 (lv_at hl 7 rfl) ?_
            refine lv_aload_n hx hb dX8_isTight_127 rfl (lv_at hl 2 rfl) ?_
            refine md_getr hx hb hts hin_wsX80 hown hC hM 7 (by decide) rfl fl_13 dX8_isTight_128 ?_
            refine lv_iload hx hb dX8_isTight_131 (lv_at hl 1 rfl) ?_
            refine md_iald hx hb hC hM 7 rfl (j := (8 * r) + i) (by omega) (by decide) dX8_isTight_133 ?_
            refine lv_aload_n hx hb dX8_isTight_134 rfl (lv_at hl 2 rfl) ?_
            refine md_getr hx hb hts hin_wsX80 hown hC hM 8 (by decide) rfl fl_16 dX8_isTight_135 ?_
            refine lv_iload hx hb dX8_isTight_138 (lv_at hl 1 rfl) ?_
            refine md_iald hx hb hC hM 8 rfl (j := (8 * r) + i) (by omega) (by decide) dX8_isTight_140 ?_
            refine lv_aload_n hx hb dX8_isTight_141 rfl (lv_at hl 2 rfl) ?_
            refine md_getr hx hb hts hin_wsX80 hown hC hM 7 (by decide) rfl fl_13 dX8_isTight_142 ?_
            refine lv_iload hx hb dX8_isTight_145 (lv_at hl 0 rfl) ?_
            refine md_iald hx hb hC hM 7 rfl (j := (8 * r) + ((i + 1) % cn)) (by omega) (by decide) dX8_isTight_147 ?_
            refine lv_aload_n hx hb dX8_isTight_148 rfl (lv_at hl 2 rfl) ?_
            refine md_getr hx hb hts hin_wsX80 hown hC hM 8 (by decide) rfl fl_16 dX8_isTight_149 ?_
            refine lv_iload hx hb dX8_isTight_152 (lv_at hl 0 rfl) ?_
            refine md_iald hx hb hC hM 8 rfl (j := (8 * r) + ((i + 1) % cn)) (by omega) (by decide) dX8_isTight_154 ?_
            refine lv_iload hx hb dX8_isTight_155 (lv_at hl 8 rfl) ?_
            refine lv_i2l hx hb dX8_isTight_157 rfl ?_
            refine lv_iconst (v := (1 : Int32)) hx hb dX8_isTight_158 (by decide) ?_
            refine mp_calli (va_runS (As := [.int x0, .int y1, .int (f 7 ((8 * r) + i)), .int (f 8 ((8 * r) + i)), .int (f 7 ((8 * r) + ((i + 1) % cn))), .int (f 8 ((8 * r) + ((i + 1) % cn))), .long eg.toInt64, .int (1 : Int32)]) (rest := []) ⟨hx, hb, hml, hown, hts⟩ (c_X8_reaches l X G A (md_M G B h ad n f) x0 y1 (f 7 ((8 * r) + i)) (f 8 ((8 * r) + i)) (f 7 ((8 * r) + ((i + 1) % cn))) (f 8 ((8 * r) + ((i + 1) % cn))) eg.toInt64 (1 : Int32) true rfl) (va_cwS 8 hts gX8_isTight_X8_reaches rfl rfl rfl (by decide +kernel) ⟨Nat.le_of_ble_eq_true rfl, Nat.le_of_ble_eq_true rfl⟩) (mp_preS hC hS hM) rfl rfl hl.1 rfl (lv_room (Nat.le_of_ble_eq_true rfl)) dX8_isTight_159 ⟨Nat.le_of_ble_eq_true rfl, Nat.le_of_ble_eq_true rfl⟩) hS (fun H locs hM hS => ?_)
            refine lv_if_ne (tgt := 207) hx hb dX8_isTight_162 (by decide) (fun c3 => ?_) (fun c3 => ?_)
            · have c3 : (pB (rc_reach x0 y1 (f 7 ((8 * r) + i)) (f 8 ((8 * r) + i)) (f 7 ((8 * r) + ((i + 1) % cn))) (f 8 ((8 * r) + ((i + 1) % cn))) eg.toInt64 true)) = true := bI_1.mp c3
              refine lv_iconst (v := (1 : Int32)) hx hb dX8_isTight_207 (by decide) ?_
              exact mp_zret hx hb hr hlocks (Nat.le_of_ble_eq_true rfl) (Nat.le_of_ble_eq_true rfl) hM hS dX8_isTight_208 (by first | rfl | exact bI_nar _) (⟨b1 ⟨i, hlt, (fun q => Or.inr (Or.inr (Or.inl q))) (pB_iff.mp c3)⟩, rfl⟩)
            · have c3 : (pB (rc_reach x0 y1 (f 7 ((8 * r) + i)) (f 8 ((8 * r) + i)) (f 7 ((8 * r) + ((i + 1) % cn))) (f 8 ((8 * r) + ((i + 1) % cn))) eg.toInt64 true)) = false := bI_0.mp c3
              refine lv_iload hx hb dX8_isTight_165 (lv_at hl 6 rfl) ?_
              refine lv_iload hx hb dX8_isTight_167 (lv_at hl 7 rfl) ?_
              refine lv_aload_n hx hb dX8_isTight_169 rfl (lv_at hl 2 rfl) ?_
              refine md_getr hx hb hts hin_wsX80 hown hC hM 7 (by decide) rfl fl_13 dX8_isTight_170 ?_
              refine lv_iload hx hb dX8_isTight_173 (lv_at hl 1 rfl) ?_
              refine md_iald hx hb hC hM 7 rfl (j := (8 * r) + i) (by omega) (by decide) dX8_isTight_175 ?_
              refine lv_aload_n hx hb dX8_isTight_176 rfl (lv_at hl 2 rfl) ?_
              refine md_getr hx hb hts hin_wsX80 hown hC hM 8 (by decide) rfl fl_16 dX8_isTight_177 ?_
              refine lv_iload hx hb dX8_isTight_180 (lv_at hl 1 rfl) ?_
              refine md_iald hx hb hC hM 8 rfl (j := (8 * r) + i) (by omega) (by decide) dX8_isTight_182 ?_
              refine lv_aload_n hx hb dX8_isTight_183 rfl (lv_at hl 2 rfl) ?_
              refine md_getr hx hb hts hin_wsX80 hown hC hM 7 (by decide) rfl fl_13 dX8_isTight_184 ?_
              refine lv_iload hx hb dX8_isTight_187 (lv_at hl 0 rfl) ?_
              refine md_iald hx hb hC hM 7 rfl (j := (8 * r) + ((i + 1) % cn)) (by omega) (by decide) dX8_isTight_189 ?_
              refine lv_aload_n hx hb dX8_isTight_190 rfl (lv_at hl 2 rfl) ?_
              refine md_getr hx hb hts hin_wsX80 hown hC hM 8 (by decide) rfl fl_16 dX8_isTight_191 ?_
              refine lv_iload hx hb dX8_isTight_194 (lv_at hl 0 rfl) ?_
              refine md_iald hx hb hC hM 8 rfl (j := (8 * r) + ((i + 1) % cn)) (by omega) (by decide) dX8_isTight_196 ?_
              refine lv_iload hx hb dX8_isTight_197 (lv_at hl 8 rfl) ?_
              refine lv_i2l hx hb dX8_isTight_199 rfl ?_
              refine lv_iconst (v := (1 : Int32)) hx hb dX8_isTight_200 (by decide) ?_
              refine mp_calli (va_runS (As := [.int x1, .int y1, .int (f 7 ((8 * r) + i)), .int (f 8 ((8 * r) + i)), .int (f 7 ((8 * r) + ((i + 1) % cn))), .int (f 8 ((8 * r) + ((i + 1) % cn))), .long eg.toInt64, .int (1 : Int32)]) (rest := []) ⟨hx, hb, hml, hown, hts⟩ (c_X8_reaches l X G A (md_M G B h ad n f) x1 y1 (f 7 ((8 * r) + i)) (f 8 ((8 * r) + i)) (f 7 ((8 * r) + ((i + 1) % cn))) (f 8 ((8 * r) + ((i + 1) % cn))) eg.toInt64 (1 : Int32) true rfl) (va_cwS 8 hts gX8_isTight_X8_reaches rfl rfl rfl (by decide +kernel) ⟨Nat.le_of_ble_eq_true rfl, Nat.le_of_ble_eq_true rfl⟩) (mp_preS hC hS hM) rfl rfl hl.1 rfl (lv_room (Nat.le_of_ble_eq_true rfl)) dX8_isTight_201 ⟨Nat.le_of_ble_eq_true rfl, Nat.le_of_ble_eq_true rfl⟩) hS (fun H locs hM hS => ?_)
              refine lv_if_eq (tgt := 209) hx hb dX8_isTight_204 (by decide) (fun c4 => ?_) (fun c4 => ?_)
              · have c4 : (pB (rc_reach x1 y1 (f 7 ((8 * r) + i)) (f 8 ((8 * r) + i)) (f 7 ((8 * r) + ((i + 1) % cn))) (f 8 ((8 * r) + ((i + 1) % cn))) eg.toInt64 true)) = false := bI_0.mp c4
                refine lv_aload_n hx hb dX8_isTight_209 rfl (lv_at hl 2 rfl) ?_
                refine md_getr hx hb hts hin_wsX80 hown hC hM 7 (by decide) rfl fl_13 dX8_isTight_210 ?_
                refine lv_iload hx hb dX8_isTight_213 (lv_at hl 1 rfl) ?_
                refine md_iald hx hb hC hM 7 rfl (j := (8 * r) + i) (by omega) (by decide) dX8_isTight_215 ?_
                refine lv_istore (lv' := [(10, .int (f 7 ((8 * r) + i))), (9, .int (nI ((8 * r) + ((i + 1) % cn)))), (8, .int (nI ((8 * r) + i))), (0, .ref h), (1, .int (nI r)), (2, .int x0), (3, .int y0), (4, .int x1), (5, .int y1), (6, .int eg), (7, .int (nI i))]) hx hb dX8_isTight_216 hl (by decide) rfl (fun ls hl => ?_)
                refine lv_aload_n hx hb dX8_isTight_218 rfl (lv_at hl 3 rfl) ?_
                refine md_getr hx hb hts hin_wsX80 hown hC hM 8 (by decide) rfl fl_16 dX8_isTight_219 ?_
                refine lv_iload hx hb dX8_isTight_222 (lv_at hl 2 rfl) ?_
                refine md_iald hx hb hC hM 8 rfl (j := (8 * r) + i) (by omega) (by decide) dX8_isTight_224 ?_
                refine lv_istore (lv' := [(11, .int (f 8 ((8 * r) + i))), (10, .int (f 7 ((8 * r) + i))), (9, .int (nI ((8 * r) + ((i + 1) % cn)))), (8, .int (nI ((8 * r) + i))), (0, .ref h), (1, .int (nI r)), (2, .int x0), (3, .int y0), (4, .int x1), (5, .int y1), (6, .int eg), (7, .int (nI i))]) hx hb dX8_isTight_225 hl (by decide) rfl (fun ls hl => ?_)
                refine lv_iload hx hb dX8_isTight_227 (lv_at hl 1 rfl) ?_
                refine lv_iload hx hb dX8_isTight_229 (lv_at hl 0 rfl) ?_
                refine lv_iload_n hx hb dX8_isTight_231 rfl (lv_at hl 6 rfl) ?_
                refine lv_iload_n hx hb dX8_isTight_232 rfl (lv_at hl 7 rfl) ?_
                refine lv_iload hx hb dX8_isTight_233 (lv_at hl 8 rfl) ?_
                refine lv_iload_n hx hb dX8_isTight_235 rfl (lv_at hl 7 rfl) ?_
                refine lv_iload hx hb dX8_isTight_236 (lv_at hl 10 rfl) ?_
                refine lv_i2l hx hb dX8_isTight_238 rfl ?_
                refine lv_iconst (v := (1 : Int32)) hx hb dX8_isTight_239 (by decide) ?_
                refine mp_calli (va_runS (As := [.int (f 7 ((8 * r) + i)), .int (f 8 ((8 * r) + i)), .int x0, .int y0, .int x1, .int y0, .long eg.toInt64, .int (1 : Int32)]) (rest := []) ⟨hx, hb, hml, hown, hts⟩ (c_X8_reaches l X G A (md_M G B h ad n f) (f 7 ((8 * r) + i)) (f 8 ((8 * r) + i)) x0 y0 x1 y0 eg.toInt64 (1 : Int32) true rfl) (va_cwS 8 hts gX8_isTight_X8_reaches rfl rfl rfl (by decide +kernel) ⟨Nat.le_of_ble_eq_true rfl, Nat.le_of_ble_eq_true rfl⟩) (mp_preS hC hS hM) rfl rfl hl.1 rfl (lv_room (Nat.le_of_ble_eq_true rfl)) dX8_isTight_240 ⟨Nat.le_of_ble_eq_true rfl, Nat.le_of_ble_eq_true rfl⟩) hS (fun H locs hM hS => ?_)
                refine lv_if_ne (tgt := 307) hx hb dX8_isTight_243 (by decide) (fun c5 => ?_) (fun c5 => ?_)
                · have c5 : (pB (rc_reach (f 7 ((8 * r) + i)) (f 8 ((8 * r) + i)) x0 y0 x1 y0 eg.toInt64 true)) = true := bI_1.mp c5
                  refine lv_iconst (v := (1 : Int32)) hx hb dX8_isTight_307 (by decide) ?_
                  exact mp_zret hx hb hr hlocks (Nat.le_of_ble_eq_true rfl) (Nat.le_of_ble_eq_true rfl) hM hS dX8_isTight_308 (by first | rfl | exact bI_nar _) (⟨b1 ⟨i, hlt, (fun q => Or.inr (Or.inr (Or.inr (Or.inr (Or.inl q))))) (pB_iff.mp c5)⟩, rfl⟩)
                · have c5 : (pB (rc_reach (f 7 ((8 * r) + i)) (f 8 ((8 * r) + i)) x0 y0 x1 y0 eg.toInt64 true)) = false := bI_0.mp c5
                  refine lv_iload hx hb dX8_isTight_246 (lv_at hl 1 rfl) ?_
                  refine lv_iload hx hb dX8_isTight_248 (lv_at hl 0 rfl) ?_
                  refine lv_iload hx hb dX8_isTight_250 (lv_at hl 8 rfl) ?_
                  refine lv_iload_n hx hb dX8_isTight_252 rfl (lv_at hl 7 rfl) ?_
                  refine lv_iload hx hb dX8_isTight_253 (lv_at hl 8 rfl) ?_
                  refine lv_iload hx hb dX8_isTight_255 (lv_at hl 9 rfl) ?_
                  refine lv_iload hx hb dX8_isTight_257 (lv_at hl 10 rfl) ?_
                  refine lv_i2l hx hb dX8_isTight_259 rfl ?_
                  refine lv_iconst (v := (1 : Int32)) hx hb dX8_isTight_260 (by decide) ?_
                  refine mp_calli (va_runS (As := [.int (f 7 ((8 * r) + i)), .int (f 8 ((8 * r) + i)), .int x1, .int y0, .int x1, .int y1, .long eg.toInt64, .int (1 : Int32)]) (rest := []) ⟨hx, hb, hml, hown, hts⟩ (c_X8_reaches l X G A (md_M G B h ad n f) (f 7 ((8 * r) + i)) (f 8 ((8 * r) + i)) x1 y0 x1 y1 eg.toInt64 (1 : Int32) true rfl) (va_cwS 8 hts gX8_isTight_X8_reaches rfl rfl rfl (by decide +kernel) ⟨Nat.le_of_ble_eq_true rfl, Nat.le_of_ble_eq_true rfl⟩) (mp_preS hC hS hM) rfl rfl hl.1 rfl (lv_room (Nat.le_of_ble_eq_true rfl)) dX8_isTight_261 ⟨Nat.le_of_ble_eq_true rfl, Nat.le_of_ble_eq_true rfl⟩) hS (fun H locs hM hS => ?_)
                  refine lv_if_ne (tgt := 307) hx hb dX8_isTight_264 (by decide) (fun c6 => ?_) (fun c6 => ?_)
                  · have c6 : (pB (rc_reach (f 7 ((8 * r) + i)) (f 8 ((8 * r) + i)) x1 y0 x1 y1 eg.toInt64 true)) = true := bI_1.mp c6
                    refine lv_iconst (v := (1 : Int32)) hx hb dX8_isTight_307 (by decide) ?_
                    exact mp_zret hx hb hr hlocks (Nat.le_of_ble_eq_true rfl) (Nat.le_of_ble_eq_true rfl) hM hS dX8_isTight_308 (by first | rfl | exact bI_nar _) (⟨b1 ⟨i, hlt, (fun q => Or.inr (Or.inr (Or.inr (Or.inr (Or.inr (Or.inl q)))))) (pB_iff.mp c6)⟩, rfl⟩)
                  · have c6 : (pB (rc_reach (f 7 ((8 * r) + i)) (f 8 ((8 * r) + i)) x1 y0 x1 y1 eg.toInt64 true)) = false := bI_0.mp c6
                    refine lv_iload hx hb dX8_isTight_267 (lv_at hl 1 rfl) ?_
                    refine lv_iload hx hb dX8_isTight_269 (lv_at hl 0 rfl) ?_
                    refine lv_iload_n hx hb dX8_isTight_271 rfl (lv_at hl 6 rfl) ?_
                    refine lv_iload hx hb dX8_isTight_272 (lv_at hl 9 rfl) ?_
                    refine lv_iload hx hb dX8_isTight_274 (lv_at hl 8 rfl) ?_
                    refine lv_iload hx hb dX8_isTight_276 (lv_at hl 9 rfl) ?_
                    refine lv_iload hx hb dX8_isTight_278 (lv_at hl 10 rfl) ?_
                    refine lv_i2l hx hb dX8_isTight_280 rfl ?_
                    refine lv_iconst (v := (1 : Int32)) hx hb dX8_isTight_281 (by decide) ?_
                    refine mp_calli (va_runS (As := [.int (f 7 ((8 * r) + i)), .int (f 8 ((8 * r) + i)), .int x0, .int y1, .int x1, .int y1, .long eg.toInt64, .int (1 : Int32)]) (rest := []) ⟨hx, hb, hml, hown, hts⟩ (c_X8_reaches l X G A (md_M G B h ad n f) (f 7 ((8 * r) + i)) (f 8 ((8 * r) + i)) x0 y1 x1 y1 eg.toInt64 (1 : Int32) true rfl) (va_cwS 8 hts gX8_isTight_X8_reaches rfl rfl rfl (by decide +kernel) ⟨Nat.le_of_ble_eq_true rfl, Nat.le_of_ble_eq_true rfl⟩) (mp_preS hC hS hM) rfl rfl hl.1 rfl (lv_room (Nat.le_of_ble_eq_true rfl)) dX8_isTight_282 ⟨Nat.le_of_ble_eq_true rfl, Nat.le_of_ble_eq_true rfl⟩) hS (fun H locs hM hS => ?_)
                    refine lv_if_ne (tgt := 307) hx hb dX8_isTight_285 (by decide) (fun c7 => ?_) (fun c7 => ?_)
                    · have c7 : (pB (rc_reach (f 7 ((8 * r) + i)) (f 8 ((8 * r) + i)) x0 y1 x1 y1 eg.toInt64 true)) = true := bI_1.mp c7
                      refine lv_iconst (v := (1 : Int32)) hx hb dX8_isTight_307 (by decide) ?_
                      exact mp_zret hx hb hr hlocks (Nat.le_of_ble_eq_true rfl) (Nat.le_of_ble_eq_true rfl) hM hS dX8_isTight_308 (by first | rfl | exact bI_nar _) (⟨b1 ⟨i, hlt, (fun q => Or.inr (Or.inr (Or.inr (Or.inr (Or.inr (Or.inr (Or.inl q))))))) (pB_iff.mp c7)⟩, rfl⟩)
                    · have c7 : (pB (rc_reach (f 7 ((8 * r) + i)) (f 8 ((8 * r) + i)) x0 y1 x1 y1 eg.toInt64 true)) = false := bI_0.mp c7
                      refine lv_iload hx hb dX8_isTight_288 (lv_at hl 1 rfl) ?_
                      refine lv_iload hx hb dX8_isTight_290 (lv_at hl 0 rfl) ?_
                      refine lv_iload_n hx hb dX8_isTight_292 rfl (lv_at hl 6 rfl) ?_
                      refine lv_iload_n hx hb dX8_isTight_293 rfl (lv_at hl 7 rfl) ?_
                      refine lv_iload_n hx hb dX8_isTight_294 rfl (lv_at hl 6 rfl) ?_
                      refine lv_iload hx hb dX8_isTight_295 (lv_at hl 9 rfl) ?_
                      refine lv_iload hx hb dX8_isTight_297 (lv_at hl 10 rfl) ?_
                      refine lv_i2l hx hb dX8_isTight_299 rfl ?_
                      refine lv_iconst (v := (1 : Int32)) hx hb dX8_isTight_300 (by decide) ?_
                      refine mp_calli (va_runS (As := [.int (f 7 ((8 * r) + i)), .int (f 8 ((8 * r) + i)), .int x0, .int y0, .int x0, .int y1, .long eg.toInt64, .int (1 : Int32)]) (rest := []) ⟨hx, hb, hml, hown, hts⟩ (c_X8_reaches l X G A (md_M G B h ad n f) (f 7 ((8 * r) + i)) (f 8 ((8 * r) + i)) x0 y0 x0 y1 eg.toInt64 (1 : Int32) true rfl) (va_cwS 8 hts gX8_isTight_X8_reaches rfl rfl rfl (by decide +kernel) ⟨Nat.le_of_ble_eq_true rfl, Nat.le_of_ble_eq_true rfl⟩) (mp_preS hC hS hM) rfl rfl hl.1 rfl (lv_room (Nat.le_of_ble_eq_true rfl)) dX8_isTight_301 ⟨Nat.le_of_ble_eq_true rfl, Nat.le_of_ble_eq_true rfl⟩) hS (fun H locs hM hS => ?_)
                      refine lv_if_eq (tgt := 309) hx hb dX8_isTight_304 (by decide) (fun c8 => ?_) (fun c8 => ?_)
                      · have c8 : (pB (rc_reach (f 7 ((8 * r) + i)) (f 8 ((8 * r) + i)) x0 y0 x0 y1 eg.toInt64 true)) = false := bI_0.mp c8
                        refine lv_iinc (v := nI (i + 1)) (lv' := [(7, .int (nI (i + 1))), (11, .int (f 8 ((8 * r) + i))), (10, .int (f 7 ((8 * r) + i))), (9, .int (nI ((8 * r) + ((i + 1) % cn)))), (8, .int (nI ((8 * r) + i))), (0, .ref h), (1, .int (nI r)), (2, .int x0), (3, .int y0), (4, .int x1), (5, .int y1), (6, .int eg)]) hx hb dX8_isTight_309 hl (k := 11) rfl (nI_1 i) (by decide) rfl (fun ls hl => ?_)
                        refine lv_goto (tgt := 3) hx hb dX8_isTight_312 (by decide) ?_
                        exact ih (i + 1) ls _ _ (by omega) (by omega) (fun u hu => by
                          by_cases hui : u < i
                          · exact hinv u hui
                          · rw [show u = i by omega]
                            exact fun q => q.elim (pB_not.mp c1) (fun q => q.elim (pB_not.mp c2) (fun q => q.elim (pB_not.mp c3) (fun q => q.elim (pB_not.mp c4) (fun q => q.elim (pB_not.mp c5) (fun q => q.elim (pB_not.mp c6) (fun q => q.elim (pB_not.mp c7) (pB_not.mp c8)))))))) hM hS (lv_sub hl [5, 6, 7, 8, 9, 10, 11, 0] rfl)
                      · have c8 : (pB (rc_reach (f 7 ((8 * r) + i)) (f 8 ((8 * r) + i)) x0 y0 x0 y1 eg.toInt64 true)) = true := bI_1.mp c8
                        refine lv_iconst (v := (1 : Int32)) hx hb dX8_isTight_307 (by decide) ?_
                        exact mp_zret hx hb hr hlocks (Nat.le_of_ble_eq_true rfl) (Nat.le_of_ble_eq_true rfl) hM hS dX8_isTight_308 (by first | rfl | exact bI_nar _) (⟨b1 ⟨i, hlt, (fun q => Or.inr (Or.inr (Or.inr (Or.inr (Or.inr (Or.inr (Or.inr (q)))))))) (pB_iff.mp c8)⟩, rfl⟩)
              · have c4 : (pB (rc_reach x1 y1 (f 7 ((8 * r) + i)) (f 8 ((8 * r) + i)) (f 7 ((8 * r) + ((i + 1) % cn))) (f 8 ((8 * r) + ((i + 1) % cn))) eg.toInt64 true)) = true := bI_1.mp c4
                refine lv_iconst (v := (1 : Int32)) hx hb dX8_isTight_207 (by decide) ?_
                exact mp_zret hx hb hr hlocks (Nat.le_of_ble_eq_true rfl) (Nat.le_of_ble_eq_true rfl) hM hS dX8_isTight_208 (by first | rfl | exact bI_nar _) (⟨b1 ⟨i, hlt, (fun q => Or.inr (Or.inr (Or.inr (Or.inl q)))) (pB_iff.mp c4)⟩, rfl⟩)
          · have c2 : (pB (rc_reach x1 y0 (f 7 ((8 * r) + i)) (f 8 ((8 * r) + i)) (f 7 ((8 * r) + ((i + 1) % cn))) (f 8 ((8 * r) + ((i + 1) % cn))) eg.toInt64 true)) = true := bI_1.mp c2
            refine lv_iconst (v := (1 : Int32)) hx hb dX8_isTight_122 (by decide) ?_
            exact mp_zret hx hb hr hlocks (Nat.le_of_ble_eq_true rfl) (Nat.le_of_ble_eq_true rfl) hM hS dX8_isTight_123 (by first | rfl | exact bI_nar _) (⟨b1 ⟨i, hlt, (fun q => Or.inr (Or.inl q)) (pB_iff.mp c2)⟩, rfl⟩)
  exact LP3 _ 0 ls _ _ (Nat.lt_succ_self _) (Nat.zero_le _) (fun u hu => absurd hu (Nat.not_lt_zero u)) hM hS (lv_sub hl [1, 2, 3, 4, 5, 6, 7, 0] rfl)
abbrev rmX8_broken : Room := { frames := 3, cells := 0, slots := 0, locals := 79 }
set_option maxHeartbeats 4000000 in
set_option maxRecDepth 100000 in
theorem c_X8_broken (l : Launch) (X : mp_X) (G : mp_G) (A : Nat → Prop) (B : mp_M) (h : Nat) (ad : Nat → Nat) (n : Nat → Int32) (f : Nat → Nat → Int32) (pn : Nat) (hpn : n 3 = nI pn) (hpn9 : pn ≤ 20) (zmf : Nat → Nat) (hzmf : ∀ o, o < pn → f 17 o = nI (zmf o) ∧ zmf o ≤ 8) (ap : Nat) (hap : n 4 = nI ap) (hap9 : ap ≤ 40) (r cn : Nat) (hr9 : r < 13) (hcn0 : 0 < cn) (hcn8 : cn ≤ 8) (hcn : f 6 r = nI cn) (x0 y0 x1 y1 ht us d k : Int32) (hdd : md_in d 0 9999) (hkk : md_in k 0 9999) : mp_Met l X G A yX8_broken wsX8_broken rmX8_broken ([.ref h, .int (nI r), .int x0, .int y0, .int x1, .int y1, .int ht, .int us, .int d, .int k] : List Value) (md_M G B h ad n f) (fun v M1 => v = some (.int (md_broken f pn ap zmf r cn x0 y0 x1 y1 ht us d k)) ∧ M1 = md_M G B h ad n f) 0 0 := by
  refine mp_ofW (cc := cX8_broken) (maxL := 14) (ret := (some .int)) (by decide) rfl (Nat.le_of_ble_eq_true rfl) ?_
  intro p e s m below meth c ls hx hb hr hts hown hlocks hnm hml hC hM hS hl
  have hl : lv_has ls 14 [(0, .ref h), (1, .int (nI r)), (2, .int x0), (3, .int y0), (4, .int x1), (5, .int y1), (6, .int ht), (7, .int us), (8, .int d), (9, .int k)] := hl
  have hown : s.vm.findClass RX8 = some m.cls := hown
  have fl_7 := hts (.fieldLink RX8 7 "PlanningBenchModel" "corners" "[I") (List.mem_of_getElem? (i := 1) rfl)
  have hin_wsX80 : ∀ w ∈ wsX80, w ∈ wsX8_broken := fun _ h => List.mem_cons_of_mem _ (List.mem_append_right _ h)
  have fl_42 := hts (.fieldLink RX8 42 "PlanningBenchModel" "zoneUses" "[I") (List.mem_of_getElem? (i := 2) rfl)
  have fl_122 := hts (.fieldLink RX8 122 "PlanningBenchModel" "applications" "I") (List.mem_of_getElem? (i := 4) rfl)
  have fl_48 := hts (.fieldLink RX8 48 "PlanningBenchModel" "onPlot" "[I") (List.mem_of_getElem? (i := 5) rfl)
  have fl_45 := hts (.fieldLink RX8 45 "PlanningBenchModel" "zoneNumber" "[I") (List.mem_of_getElem? (i := 3) rfl)
  have hw_246 := hts (.constantLong RX8 246 (200)) (List.mem_of_getElem? (i := 10) rfl)
  have fl_57 := hts (.fieldLink RX8 57 "PlanningBenchModel" "x1s" "[I") (List.mem_of_getElem? (i := 6) rfl)
  have fl_51 := hts (.fieldLink RX8 51 "PlanningBenchModel" "x0s" "[I") (List.mem_of_getElem? (i := 7) rfl)
  have fl_60 := hts (.fieldLink RX8 60 "PlanningBenchModel" "y1s" "[I") (List.mem_of_getElem? (i := 8) rfl)
  have fl_54 := hts (.fieldLink RX8 54 "PlanningBenchModel" "y0s" "[I") (List.mem_of_getElem? (i := 9) rfl)
  refine lv_iconst (v := (0 : Int32)) hx hb dX8_broken_0 (by decide) ?_
  refine lv_istore (lv' := [(10, .int (0 : Int32)), (0, .ref h), (1, .int (nI r)), (2, .int x0), (3, .int y0), (4, .int x1), (5, .int y1), (6, .int ht), (7, .int us), (8, .int d), (9, .int k)]) hx hb dX8_broken_1 hl (by decide) rfl (fun ls hl => ?_)
  have LP3 : ∀ (kk : Nat) (i : Nat) (ls : Array Slot) (H : Heap) (locs : List Loc), cn - i < kk → i ≤ cn → (∀ u, u < i → ¬ md_out (md_rg f r cn) u x0 y0 x1 y1) → mp_P G.1 A (md_M G B h ad n f) H → va_S A s.heap H locs → lv_has ls 14 [(0, .ref h), (1, .int (nI r)), (2, .int x0), (3, .int y0), (4, .int x1), (5, .int y1), (6, .int ht), (7, .int us), (8, .int d), (9, .int k), (10, .int (nI i))] → W p l e rmX8_broken s m ([.ref h, .int (nI r), .int x0, .int y0, .int x1, .int y1, .int ht, .int us, .int d, .int k] : List Value).toArray below meth c H locs 0 0 (MQ below (mp_Q G.1 A (fun v M1 => v = some (.int (md_broken f pn ap zmf r cn x0 y0 x1 y1 ht us d k)) ∧ M1 = md_M G B h ad n f)) ([.ref h, .int (nI r), .int x0, .int y0, .int x1, .int y1, .int ht, .int us, .int d, .int k] : List Value).toArray s 0 0 A) (F0 m 3 ls []) := by
    intro kk
    induction kk with
    | zero => intro i ls H locs hk; exact absurd hk (Nat.not_lt_zero _)
    | succ kk ih =>
      intro i ls H locs hk hi hinv hM hS hl
      refine lv_iload hx hb dX8_broken_3 (lv_at hl 10 rfl) ?_
      refine lv_aload_n hx hb dX8_broken_5 rfl (lv_at hl 0 rfl) ?_
      refine md_getr hx hb hts hin_wsX80 hown hC hM 6 (by decide) rfl fl_7 dX8_broken_6 ?_
      refine lv_iload_n hx hb dX8_broken_9 rfl (lv_at hl 1 rfl) ?_
      refine md_iald hx hb hC hM 6 rfl (j := r) (by omega) (by decide) dX8_broken_10 ?_
      refine mp_top (nI cn) hcn ?_
      refine lv_icmp_ge (tgt := 74) hx hb dX8_broken_11 (by decide) (fun hlt => ?_) (fun hlt => ?_)
      · have hlt := nn_le (a := cn) (b := i) (by omega) (by omega) hlt
        have E1 : md_broken f pn ap zmf r cn x0 y0 x1 y1 ht us d k = match md_zo f pn zmf r d k with | none => 2 | some z => md_s3 f ap r cn z x0 y0 x1 y1 ht us d k := by rw [md_broken, pB_f (fun ⟨u, hu, q⟩ => hinv u (by omega) q)]; rfl
        refine lv_aload_n hx hb dX8_broken_74 rfl (lv_at hl 0 rfl) ?_
        refine lv_iload hx hb dX8_broken_75 (lv_at hl 8 rfl) ?_
        refine lv_iload hx hb dX8_broken_77 (lv_at hl 9 rfl) ?_
        refine mp_calli (va_runV (As := [.int d, .int k]) (rest := []) ⟨hx, hb, hml, hown, hts⟩ (c_X8_plan l X G A B h ad n f pn hpn hpn9 d k) (cwV 2 hts gX8_broken_X8_plan rfl rfl rfl (by decide +kernel) ⟨Nat.le_of_ble_eq_true rfl, Nat.le_of_ble_eq_true rfl⟩) (mp_preV hC hS hM (md_recv hC hM)) rfl rfl hl.1 rfl (lv_room (Nat.le_of_ble_eq_true rfl)) dX8_broken_79 ⟨Nat.le_of_ble_eq_true rfl, Nat.le_of_ble_eq_true rfl⟩) hS (fun H locs hM hS => ?_)
        refine mp_top (oI (bst (md_planP f d k) (f 15) pn)) (by rw [md_plan, pB_t ⟨hdd, hkk⟩]; rfl) ?_
        refine lv_istore (lv' := [(10, .int (oI (bst (md_planP f d k) (f 15) pn))), (0, .ref h), (1, .int (nI r)), (2, .int x0), (3, .int y0), (4, .int x1), (5, .int y1), (6, .int ht), (7, .int us), (8, .int d), (9, .int k)]) hx hb dX8_broken_82 hl (by decide) rfl (fun ls hl => ?_)
        rcases ho_1 : bst (md_planP f d k) (f 15) pn with _ | p0
        · have ho_1e : oI (bst (md_planP f d k) (f 15) pn) = (-1 : Int32) := by rw [ho_1]; rfl
          rw [ho_1e] at hl
          refine lv_iload hx hb dX8_broken_84 (lv_at hl 0 rfl) ?_
          refine lv_iconst (v := (-1 : Int32)) hx hb dX8_broken_86 (by decide) ?_
          refine lv_icmp_ne (tgt := 94) hx hb dX8_broken_87 (by decide) (fun c_2 => ?_) (fun c_2 => ?_)
          · have c_2 := c_2
            exact absurd c_2 (fun z => z rfl)
          · have c_2 := c_2
            refine lv_iconst (v := (-1 : Int32)) hx hb dX8_broken_90 (by decide) ?_
            refine lv_goto (tgt := 101) hx hb dX8_broken_91 (by decide) ?_
            refine lv_istore (lv' := [(11, .int (-1 : Int32)), (10, .int (-1 : Int32)), (0, .ref h), (1, .int (nI r)), (2, .int x0), (3, .int y0), (4, .int x1), (5, .int y1), (6, .int ht), (7, .int us), (8, .int d), (9, .int k)]) hx hb dX8_broken_101 hl (by decide) rfl (fun ls hl => ?_)
            refine lv_iload hx hb dX8_broken_103 (lv_at hl 0 rfl) ?_
            refine lv_iconst (v := (-1 : Int32)) hx hb dX8_broken_105 (by decide) ?_
            refine lv_icmp_ne (tgt := 111) hx hb dX8_broken_106 (by decide) (fun c_3 => ?_) (fun c_3 => ?_)
            · have c_3 := c_3
              exact absurd c_3 (fun z => z rfl)
            · have c_3 := c_3
              refine lv_iconst (v := (2 : Int32)) hx hb dX8_broken_109 (by decide) ?_
              exact mp_iret hx hb hr hlocks (Nat.le_of_ble_eq_true rfl) (Nat.le_of_ble_eq_true rfl) hM hS dX8_broken_110 (⟨by rw [E1, md_zo, ho_1]; try rfl, rfl⟩)
        · have ho_1e : oI (bst (md_planP f d k) (f 15) pn) = nI p0 := by rw [ho_1]; rfl
          have hp0 := (bst_some ho_1).1
          have g1 := hzmf p0 hp0
          rw [ho_1e] at hl
          refine lv_iload hx hb dX8_broken_84 (lv_at hl 0 rfl) ?_
          refine lv_iconst (v := (-1 : Int32)) hx hb dX8_broken_86 (by decide) ?_
          refine lv_icmp_ne (tgt := 94) hx hb dX8_broken_87 (by decide) (fun c_4 => ?_) (fun c_4 => ?_)
          · have c_4 := c_4
            refine lv_aload_n hx hb dX8_broken_94 rfl (lv_at hl 1 rfl) ?_
            refine lv_iload hx hb dX8_broken_95 (lv_at hl 0 rfl) ?_
            refine lv_iload_n hx hb dX8_broken_97 rfl (lv_at hl 2 rfl) ?_
            refine mp_calli (va_runV (As := [.int (nI p0), .int (nI r)]) (rest := []) ⟨hx, hb, hml, hown, hts⟩ (c_X8_zoneOf l X G A B h ad n f p0 (zmf p0) r (by omega) g1.1 g1.2) (cwV 2 hts gX8_broken_X8_zoneOf rfl rfl rfl (by decide +kernel) ⟨Nat.le_of_ble_eq_true rfl, Nat.le_of_ble_eq_true rfl⟩) (mp_preV hC hS hM (md_recv hC hM)) rfl rfl hl.1 rfl (lv_room (Nat.le_of_ble_eq_true rfl)) dX8_broken_98 ⟨Nat.le_of_ble_eq_true rfl, Nat.le_of_ble_eq_true rfl⟩) hS (fun H locs hM hS => ?_)
            refine lv_istore (lv' := [(11, .int (oI (md_zoneO f p0 (zmf p0) r))), (10, .int (nI p0)), (0, .ref h), (1, .int (nI r)), (2, .int x0), (3, .int y0), (4, .int x1), (5, .int y1), (6, .int ht), (7, .int us), (8, .int d), (9, .int k)]) hx hb dX8_broken_101 hl (by decide) rfl (fun ls hl => ?_)
            rcases ho_5 : md_zoneO f p0 (zmf p0) r with _ | z
            · have ho_5e : oI (md_zoneO f p0 (zmf p0) r) = (-1 : Int32) := by rw [ho_5]; rfl
              rw [ho_5e] at hl
              refine lv_iload hx hb dX8_broken_103 (lv_at hl 0 rfl) ?_
              refine lv_iconst (v := (-1 : Int32)) hx hb dX8_broken_105 (by decide) ?_
              refine lv_icmp_ne (tgt := 111) hx hb dX8_broken_106 (by decide) (fun c_6 => ?_) (fun c_6 => ?_)
              · have c_6 := c_6
                exact absurd c_6 (fun z => z rfl)
              · have c_6 := c_6
                refine lv_iconst (v := (2 : Int32)) hx hb dX8_broken_109 (by decide) ?_
                exact mp_iret hx hb hr hlocks (Nat.le_of_ble_eq_true rfl) (Nat.le_of_ble_eq_true rfl) hM hS dX8_broken_110 (⟨by rw [E1, md_zo, ho_1, Option.bind_some, ho_5]; try rfl, rfl⟩)
            · have ho_5e : oI (md_zoneO f p0 (zmf p0) r) = nI z := by rw [ho_5]; rfl
              obtain ⟨j0, hj0, ez⟩ := md_zoneO_in ho_5
              rw [ho_5e] at hl
              refine lv_iload hx hb dX8_broken_103 (lv_at hl 0 rfl) ?_
              refine lv_iconst (v := (-1 : Int32)) hx hb dX8_broken_105 (by decide) ?_
              refine lv_icmp_ne (tgt := 111) hx hb dX8_broken_106 (by decide) (fun c_7 => ?_) (fun c_7 => ?_)
              · have c_7 := c_7
                have E2 : md_broken f pn ap zmf r cn x0 y0 x1 y1 ht us d k = md_s3 f ap r cn z x0 y0 x1 y1 ht us d k := by rw [E1, md_zo, ho_1, Option.bind_some, ho_5]
                refine lv_aload_n hx hb dX8_broken_111 rfl (lv_at hl 2 rfl) ?_
                refine md_getr hx hb hts hin_wsX80 hown hC hM 19 (by decide) rfl fl_42 dX8_broken_112 ?_
                refine lv_iload hx hb dX8_broken_115 (lv_at hl 0 rfl) ?_
                refine md_iald hx hb hC hM 19 rfl (j := z) (by omega) (by decide) dX8_broken_117 ?_
                refine lv_iload hx hb dX8_broken_118 (lv_at hl 9 rfl) ?_
                refine lv_ishr hx hb dX8_broken_120 ?_
                refine lv_iconst (v := (1 : Int32)) hx hb dX8_broken_121 (by decide) ?_
                refine lv_iand hx hb dX8_broken_122 ?_
                refine lv_if_ne (tgt := 128) hx hb dX8_broken_123 (by decide) (fun c5 => ?_) (fun c5 => ?_)
                · have c5 := c5
                  have E4 : md_broken f pn ap zmf r cn x0 y0 x1 y1 ht us d k = md_s4 f ap r cn z x0 y0 x1 y1 ht us d k := by rw [E2, md_s3, pB_f c5]; rfl
                  have LP157 : ∀  (ls : Array Slot) (H : Heap) (locs : List Loc), md_broken f pn ap zmf r cn x0 y0 x1 y1 ht us d k = md_s5 f ap r cn z x0 y0 x1 y1 ht us d k → mp_P G.1 A (md_M G B h ad n f) H → va_S A s.heap H locs → lv_has ls 14 [(0, .ref h), (1, .int (nI r)), (2, .int x0), (3, .int y0), (4, .int x1), (5, .int y1), (6, .int ht), (7, .int us), (8, .int d), (9, .int k), (11, .int (nI z))] → W p l e rmX8_broken s m ([.ref h, .int (nI r), .int x0, .int y0, .int x1, .int y1, .int ht, .int us, .int d, .int k] : List Value).toArray below meth c H locs 0 0 (MQ below (mp_Q G.1 A (fun v M1 => v = some (.int (md_broken f pn ap zmf r cn x0 y0 x1 y1 ht us d k)) ∧ M1 = md_M G B h ad n f)) ([.ref h, .int (nI r), .int x0, .int y0, .int x1, .int y1, .int ht, .int us, .int d, .int k] : List Value).toArray s 0 0 A) (F0 m 157 ls []) := by
                    intro  ls H locs hE5 hM hS hl
                    have LP293 : ∀  (ls : Array Slot) (H : Heap) (locs : List Loc), md_broken f pn ap zmf r cn x0 y0 x1 y1 ht us d k = md_s6 f ap r cn z x0 y0 x1 y1 ht us d k → mp_P G.1 A (md_M G B h ad n f) H → va_S A s.heap H locs → lv_has ls 14 [(0, .ref h), (1, .int (nI r)), (2, .int x0), (3, .int y0), (4, .int x1), (5, .int y1), (6, .int ht), (7, .int us), (8, .int d), (9, .int k), (11, .int (nI z))] → W p l e rmX8_broken s m ([.ref h, .int (nI r), .int x0, .int y0, .int x1, .int y1, .int ht, .int us, .int d, .int k] : List Value).toArray below meth c H locs 0 0 (MQ below (mp_Q G.1 A (fun v M1 => v = some (.int (md_broken f pn ap zmf r cn x0 y0 x1 y1 ht us d k)) ∧ M1 = md_M G B h ad n f)) ([.ref h, .int (nI r), .int x0, .int y0, .int x1, .int y1, .int ht, .int us, .int d, .int k] : List Value).toArray s 0 0 A) (F0 m 293 ls []) := by
                      intro  ls H locs hE6 hM hS hl
                      have LP336 : ∀  (ls : Array Slot) (H : Heap) (locs : List Loc), md_broken f pn ap zmf r cn x0 y0 x1 y1 ht us d k = md_s7 f ap r z x0 y0 x1 y1 ht us d k → mp_P G.1 A (md_M G B h ad n f) H → va_S A s.heap H locs → lv_has ls 14 [(0, .ref h), (1, .int (nI r)), (2, .int x0), (3, .int y0), (4, .int x1), (5, .int y1), (6, .int ht), (7, .int us), (8, .int d), (9, .int k), (11, .int (nI z))] → W p l e rmX8_broken s m ([.ref h, .int (nI r), .int x0, .int y0, .int x1, .int y1, .int ht, .int us, .int d, .int k] : List Value).toArray below meth c H locs 0 0 (MQ below (mp_Q G.1 A (fun v M1 => v = some (.int (md_broken f pn ap zmf r cn x0 y0 x1 y1 ht us d k)) ∧ M1 = md_M G B h ad n f)) ([.ref h, .int (nI r), .int x0, .int y0, .int x1, .int y1, .int ht, .int us, .int d, .int k] : List Value).toArray s 0 0 A) (F0 m 336 ls []) := by
                        intro  ls H locs hE7 hM hS hl
                        refine lv_iconst (v := (0 : Int32)) hx hb dX8_broken_336 (by decide) ?_
                        refine lv_istore (lv' := [(12, .int (0 : Int32)), (0, .ref h), (1, .int (nI r)), (2, .int x0), (3, .int y0), (4, .int x1), (5, .int y1), (6, .int ht), (7, .int us), (8, .int d), (9, .int k), (11, .int (nI z))]) hx hb dX8_broken_337 hl (by decide) rfl (fun ls hl => ?_)
                        have LP339 : ∀ (kk : Nat) (a : Nat) (ls : Array Slot) (H : Heap) (locs : List Loc), ap - a < kk → a ≤ ap → (∀ u, u < a → ¬ (md_stood f u d k ∧ md_meets f u x0 y0 x1 y1)) → mp_P G.1 A (md_M G B h ad n f) H → va_S A s.heap H locs → lv_has ls 14 [(0, .ref h), (1, .int (nI r)), (2, .int x0), (3, .int y0), (4, .int x1), (5, .int y1), (6, .int ht), (7, .int us), (8, .int d), (9, .int k), (11, .int (nI z)), (12, .int (nI a))] → W p l e rmX8_broken s m ([.ref h, .int (nI r), .int x0, .int y0, .int x1, .int y1, .int ht, .int us, .int d, .int k] : List Value).toArray below meth c H locs 0 0 (MQ below (mp_Q G.1 A (fun v M1 => v = some (.int (md_broken f pn ap zmf r cn x0 y0 x1 y1 ht us d k)) ∧ M1 = md_M G B h ad n f)) ([.ref h, .int (nI r), .int x0, .int y0, .int x1, .int y1, .int ht, .int us, .int d, .int k] : List Value).toArray s 0 0 A) (F0 m 339 ls []) := by
                          intro kk
                          induction kk with
                          | zero => intro a ls H locs hk; exact absurd hk (Nat.not_lt_zero _)
                          | succ kk ih2 =>
                            intro a ls H locs hk ha hinv hM hS hl
                            refine lv_iload hx hb dX8_broken_339 (lv_at hl 11 rfl) ?_
                            refine lv_aload_n hx hb dX8_broken_341 rfl (lv_at hl 0 rfl) ?_
                            refine md_geti hx hb hts hin_wsX80 hown hC hM 4 (by decide) rfl fl_122 dX8_broken_342 ?_
                            refine mp_top (nI ap) hap ?_
                            refine lv_icmp_ge (tgt := 385) hx hb dX8_broken_345 (by decide) (fun hlt => ?_) (fun hlt => ?_)
                            · have hlt := nn_le (a := ap) (b := a) (by omega) (by omega) hlt
                              have hE8 : md_broken f pn ap zmf r cn x0 y0 x1 y1 ht us d k = md_s8 f ap r z x0 y0 x1 y1 ht us d k := by rw [hE7, md_s7, pB_f (fun ⟨u, hu, q⟩ => hinv u (by omega) q)]; rfl
                              have LP423 : ∀  (ls : Array Slot) (H : Heap) (locs : List Loc), mp_P G.1 A (md_M G B h ad n f) H → va_S A s.heap H locs → lv_has ls 14 [(0, .ref h), (1, .int (nI r)), (2, .int x0), (3, .int y0), (4, .int x1), (5, .int y1), (6, .int ht), (7, .int us), (8, .int d), (9, .int k), (11, .int (nI z)), (12, .int (md_shade f z ht))] → W p l e rmX8_broken s m ([.ref h, .int (nI r), .int x0, .int y0, .int x1, .int y1, .int ht, .int us, .int d, .int k] : List Value).toArray below meth c H locs 0 0 (MQ below (mp_Q G.1 A (fun v M1 => v = some (.int (md_broken f pn ap zmf r cn x0 y0 x1 y1 ht us d k)) ∧ M1 = md_M G B h ad n f)) ([.ref h, .int (nI r), .int x0, .int y0, .int x1, .int y1, .int ht, .int us, .int d, .int k] : List Value).toArray s 0 0 A) (F0 m 423 ls []) := by
                                intro  ls H locs  hM hS hl
                                refine lv_iconst (v := (0 : Int32)) hx hb dX8_broken_423 (by decide) ?_
                                refine lv_istore (lv' := [(13, .int (0 : Int32)), (0, .ref h), (1, .int (nI r)), (2, .int x0), (3, .int y0), (4, .int x1), (5, .int y1), (6, .int ht), (7, .int us), (8, .int d), (9, .int k), (11, .int (nI z)), (12, .int (md_shade f z ht))]) hx hb dX8_broken_424 hl (by decide) rfl (fun ls hl => ?_)
                                have LP426 : ∀ (kk : Nat) (a : Nat) (ls : Array Slot) (H : Heap) (locs : List Loc), ap - a < kk → a ≤ ap → (∀ u, u < a → ¬ (f 23 u ≠ nI r ∧ md_stood f u d k ∧ md_meets f u x0 y1 x1 (y1 + md_shade f z ht))) → mp_P G.1 A (md_M G B h ad n f) H → va_S A s.heap H locs → lv_has ls 14 [(0, .ref h), (1, .int (nI r)), (2, .int x0), (3, .int y0), (4, .int x1), (5, .int y1), (6, .int ht), (7, .int us), (8, .int d), (9, .int k), (11, .int (nI z)), (12, .int (md_shade f z ht)), (13, .int (nI a))] → W p l e rmX8_broken s m ([.ref h, .int (nI r), .int x0, .int y0, .int x1, .int y1, .int ht, .int us, .int d, .int k] : List Value).toArray below meth c H locs 0 0 (MQ below (mp_Q G.1 A (fun v M1 => v = some (.int (md_broken f pn ap zmf r cn x0 y0 x1 y1 ht us d k)) ∧ M1 = md_M G B h ad n f)) ([.ref h, .int (nI r), .int x0, .int y0, .int x1, .int y1, .int ht, .int us, .int d, .int k] : List Value).toArray s 0 0 A) (F0 m 426 ls []) := by
                                  intro kk
                                  induction kk with
                                  | zero => intro a ls H locs hk; exact absurd hk (Nat.not_lt_zero _)
                                  | succ kk ih3 =>
                                    intro a ls H locs hk ha hinv hM hS hl
                                    refine lv_iload hx hb dX8_broken_426 (lv_at hl 12 rfl) ?_
                                    refine lv_aload_n hx hb dX8_broken_428 rfl (lv_at hl 0 rfl) ?_
                                    refine md_geti hx hb hts hin_wsX80 hown hC hM 4 (by decide) rfl fl_122 dX8_broken_429 ?_
                                    refine mp_top (nI ap) hap ?_
                                    refine lv_icmp_ge (tgt := 487) hx hb dX8_broken_432 (by decide) (fun hlt => ?_) (fun hlt => ?_)
                                    · have hlt := nn_le (a := ap) (b := a) (by omega) (by omega) hlt
                                      refine lv_iconst (v := (0 : Int32)) hx hb dX8_broken_487 (by decide) ?_
                                      exact mp_iret hx hb hr hlocks (Nat.le_of_ble_eq_true rfl) (Nat.le_of_ble_eq_true rfl) hM hS dX8_broken_488 (⟨by rw [hE8, md_s8, pB_f (fun ⟨u, hu, q⟩ => hinv u (by omega) q)]; rfl, rfl⟩)
                                    · have hlt := nn_nle (a := ap) (b := a) (by omega) (by omega) hlt
                                      refine lv_aload_n hx hb dX8_broken_435 rfl (lv_at hl 0 rfl) ?_
                                      refine md_getr hx hb hts hin_wsX80 hown hC hM 23 (by decide) rfl fl_48 dX8_broken_436 ?_
                                      refine lv_iload hx hb dX8_broken_439 (lv_at hl 12 rfl) ?_
                                      refine md_iald hx hb hC hM 23 rfl (j := a) (by omega) (by decide) dX8_broken_441 ?_
                                      refine lv_iload_n hx hb dX8_broken_442 rfl (lv_at hl 1 rfl) ?_
                                      refine lv_icmp_eq (tgt := 481) hx hb dX8_broken_443 (by decide) (fun c15 => ?_) (fun c15 => ?_)
                                      · have c15 := c15
                                        refine lv_iinc (v := nI (a + 1)) (lv' := [(13, .int (nI (a + 1))), (0, .ref h), (1, .int (nI r)), (2, .int x0), (3, .int y0), (4, .int x1), (5, .int y1), (6, .int ht), (7, .int us), (8, .int d), (9, .int k), (11, .int (nI z)), (12, .int (md_shade f z ht))]) hx hb dX8_broken_481 hl (k := 12) rfl (nI_1 a) (by decide) rfl (fun ls hl => ?_)
                                        refine lv_goto (tgt := 426) hx hb dX8_broken_484 (by decide) ?_
                                        exact ih3 (a + 1) ls _ _ (by omega) (by omega) (fun u hu => by
                                          by_cases hua : u < a
                                          · exact hinv u hua
                                          · rw [show u = a by omega]; exact fun q => q.1 c15) hM hS (lv_sub hl [1, 2, 3, 4, 5, 6, 7, 8, 9, 10, 11, 12, 0] rfl)
                                      · have c15 := c15
                                        refine lv_aload_n hx hb dX8_broken_446 rfl (lv_at hl 0 rfl) ?_
                                        refine lv_iload hx hb dX8_broken_447 (lv_at hl 12 rfl) ?_
                                        refine lv_iload hx hb dX8_broken_449 (lv_at hl 8 rfl) ?_
                                        refine lv_iload hx hb dX8_broken_451 (lv_at hl 9 rfl) ?_
                                        refine mp_calli (va_runV (As := [.int (nI a), .int d, .int k]) (rest := []) ⟨hx, hb, hml, hown, hts⟩ (c_X8_stood l X G A B h ad n f a (by omega) d k) (cwV 3 hts gX8_broken_X8_stood rfl rfl rfl (by decide +kernel) ⟨Nat.le_of_ble_eq_true rfl, Nat.le_of_ble_eq_true rfl⟩) (mp_preV hC hS hM (md_recv hC hM)) rfl rfl hl.1 rfl (lv_room (Nat.le_of_ble_eq_true rfl)) dX8_broken_453 ⟨Nat.le_of_ble_eq_true rfl, Nat.le_of_ble_eq_true rfl⟩) hS (fun H locs hM hS => ?_)
                                        refine lv_if_eq (tgt := 481) hx hb dX8_broken_456 (by decide) (fun c16 => ?_) (fun c16 => ?_)
                                        · have c16 : (pB (md_stood f a d k)) = false := bI_0.mp c16
                                          refine lv_iinc (v := nI (a + 1)) (lv' := [(13, .int (nI (a + 1))), (0, .ref h), (1, .int (nI r)), (2, .int x0), (3, .int y0), (4, .int x1), (5, .int y1), (6, .int ht), (7, .int us), (8, .int d), (9, .int k), (11, .int (nI z)), (12, .int (md_shade f z ht))]) hx hb dX8_broken_481 hl (k := 12) rfl (nI_1 a) (by decide) rfl (fun ls hl => ?_)
                                          refine lv_goto (tgt := 426) hx hb dX8_broken_484 (by decide) ?_
                                          exact ih3 (a + 1) ls _ _ (by omega) (by omega) (fun u hu => by
                                            by_cases hua : u < a
                                            · exact hinv u hua
                                            · rw [show u = a by omega]; exact fun q => pB_not.mp c16 q.2.1) hM hS (lv_sub hl [1, 2, 3, 4, 5, 6, 7, 8, 9, 10, 11, 12, 0] rfl)
                                        · have c16 : (pB (md_stood f a d k)) = true := bI_1.mp c16
                                          refine lv_aload_n hx hb dX8_broken_459 rfl (lv_at hl 0 rfl) ?_
                                          refine lv_iload hx hb dX8_broken_460 (lv_at hl 12 rfl) ?_
                                          refine lv_iload_n hx hb dX8_broken_462 rfl (lv_at hl 2 rfl) ?_
                                          refine lv_iload hx hb dX8_broken_463 (lv_at hl 5 rfl) ?_
                                          refine lv_iload hx hb dX8_broken_465 (lv_at hl 4 rfl) ?_
                                          refine lv_iload hx hb dX8_broken_467 (lv_at hl 5 rfl) ?_
                                          refine lv_iload hx hb dX8_broken_469 (lv_at hl 11 rfl) ?_
                                          refine lv_iadd hx hb dX8_broken_471 ?_
                                          refine mp_calli (va_runV (As := [.int (nI a), .int x0, .int y1, .int x1, .int (y1 + (md_shade f z ht))]) (rest := []) ⟨hx, hb, hml, hown, hts⟩ (c_X8_meets l X G A B h ad n f a (by omega) x0 y1 x1 (y1 + (md_shade f z ht))) (cwV 5 hts gX8_broken_X8_meets rfl rfl rfl (by decide +kernel) ⟨Nat.le_of_ble_eq_true rfl, Nat.le_of_ble_eq_true rfl⟩) (mp_preV hC hS hM (md_recv hC hM)) rfl rfl hl.1 rfl (lv_room (Nat.le_of_ble_eq_true rfl)) dX8_broken_472 ⟨Nat.le_of_ble_eq_true rfl, Nat.le_of_ble_eq_true rfl⟩) hS (fun H locs hM hS => ?_)
                                          refine lv_if_eq (tgt := 481) hx hb dX8_broken_475 (by decide) (fun c17 => ?_) (fun c17 => ?_)
                                          · have c17 : (pB (md_meets f a x0 y1 x1 (y1 + (md_shade f z ht)))) = false := bI_0.mp c17
                                            refine lv_iinc (v := nI (a + 1)) (lv' := [(13, .int (nI (a + 1))), (0, .ref h), (1, .int (nI r)), (2, .int x0), (3, .int y0), (4, .int x1), (5, .int y1), (6, .int ht), (7, .int us), (8, .int d), (9, .int k), (11, .int (nI z)), (12, .int (md_shade f z ht))]) hx hb dX8_broken_481 hl (k := 12) rfl (nI_1 a) (by decide) rfl (fun ls hl => ?_)
                                            refine lv_goto (tgt := 426) hx hb dX8_broken_484 (by decide) ?_
                                            exact ih3 (a + 1) ls _ _ (by omega) (by omega) (fun u hu => by
                                              by_cases hua : u < a
                                              · exact hinv u hua
                                              · rw [show u = a by omega]; exact fun q => pB_not.mp c17 q.2.2) hM hS (lv_sub hl [1, 2, 3, 4, 5, 6, 7, 8, 9, 10, 11, 12, 0] rfl)
                                          · have c17 : (pB (md_meets f a x0 y1 x1 (y1 + (md_shade f z ht)))) = true := bI_1.mp c17
                                            refine lv_bipush (v := (8 : Int32)) hx hb dX8_broken_478 (by decide) ?_
                                            exact mp_iret hx hb hr hlocks (Nat.le_of_ble_eq_true rfl) (Nat.le_of_ble_eq_true rfl) hM hS dX8_broken_480 (⟨by rw [hE8, md_s8, pB_t ⟨a, hlt, c15, pB_iff.mp c16, pB_iff.mp c17⟩]; rfl, rfl⟩)
                                exact LP426 _ 0 ls _ _ (Nat.lt_succ_self _) (Nat.zero_le _) (fun u hu => absurd hu (Nat.not_lt_zero u)) hM hS (lv_sub hl [1, 2, 3, 4, 5, 6, 7, 8, 9, 10, 11, 12, 0] rfl)
                              refine lv_aload_n hx hb dX8_broken_385 rfl (lv_at hl 0 rfl) ?_
                              refine md_getr hx hb hts hin_wsX80 hown hC hM 20 (by decide) rfl fl_45 dX8_broken_386 ?_
                              refine lv_iconst (v := (4 : Int32)) hx hb dX8_broken_389 (by decide) ?_
                              refine lv_iload hx hb dX8_broken_390 (lv_at hl 10 rfl) ?_
                              refine lv_imul hx hb dX8_broken_392 ?_
                              refine mp_top (nI (4 * z)) (pk_mul 4 z) ?_
                              refine lv_iconst (v := (3 : Int32)) hx hb dX8_broken_393 (by decide) ?_
                              refine lv_iadd hx hb dX8_broken_394 ?_
                              refine mp_top (nI ((4 * z) + 3)) (nI_add (4 * z) 3) ?_
                              refine md_iald hx hb hC hM 20 rfl (j := (4 * z) + 3) (by omega) (by decide) dX8_broken_395 ?_
                              refine lv_iconst (v := (-1 : Int32)) hx hb dX8_broken_396 (by decide) ?_
                              refine lv_icmp_ne (tgt := 404) hx hb dX8_broken_397 (by decide) (fun c14 => ?_) (fun c14 => ?_)
                              · have c14 := c14
                                refine lv_iload hx hb dX8_broken_404 (lv_at hl 6 rfl) ?_
                                refine lv_aload_n hx hb dX8_broken_406 rfl (lv_at hl 0 rfl) ?_
                                refine md_getr hx hb hts hin_wsX80 hown hC hM 20 (by decide) rfl fl_45 dX8_broken_407 ?_
                                refine lv_iconst (v := (4 : Int32)) hx hb dX8_broken_410 (by decide) ?_
                                refine lv_iload hx hb dX8_broken_411 (lv_at hl 10 rfl) ?_
                                refine lv_imul hx hb dX8_broken_413 ?_
                                refine mp_top (nI (4 * z)) (pk_mul 4 z) ?_
                                refine lv_iconst (v := (3 : Int32)) hx hb dX8_broken_414 (by decide) ?_
                                refine lv_iadd hx hb dX8_broken_415 ?_
                                refine mp_top (nI ((4 * z) + 3)) (nI_add (4 * z) 3) ?_
                                refine md_iald hx hb hC hM 20 rfl (j := (4 * z) + 3) (by omega) (by decide) dX8_broken_416 ?_
                                refine lv_imul hx hb dX8_broken_417 ?_
                                refine lv_bipush (v := (10 : Int32)) hx hb dX8_broken_418 (by decide) ?_
                                refine lv_idiv hx hb dX8_broken_420 (by decide) ?_
                                refine mp_top (md_shade f z ht) (by rw [md_shade, pB_f c14]; rfl) ?_
                                refine lv_istore (lv' := [(12, .int (md_shade f z ht)), (0, .ref h), (1, .int (nI r)), (2, .int x0), (3, .int y0), (4, .int x1), (5, .int y1), (6, .int ht), (7, .int us), (8, .int d), (9, .int k), (11, .int (nI z))]) hx hb dX8_broken_421 hl (by decide) rfl (fun ls hl => ?_)
                                exact LP423 ls _ _ hM hS (lv_sub hl [1, 2, 3, 4, 5, 6, 7, 8, 9, 10, 11, 0] rfl)
                              · have c14 := c14
                                refine lv_iconst (v := (0 : Int32)) hx hb dX8_broken_400 (by decide) ?_
                                refine lv_goto (tgt := 421) hx hb dX8_broken_401 (by decide) ?_
                                refine mp_top (md_shade f z ht) (by rw [md_shade, pB_t c14]; rfl) ?_
                                refine lv_istore (lv' := [(12, .int (md_shade f z ht)), (0, .ref h), (1, .int (nI r)), (2, .int x0), (3, .int y0), (4, .int x1), (5, .int y1), (6, .int ht), (7, .int us), (8, .int d), (9, .int k), (11, .int (nI z))]) hx hb dX8_broken_421 hl (by decide) rfl (fun ls hl => ?_)
                                exact LP423 ls _ _ hM hS (lv_sub hl [1, 2, 3, 4, 5, 6, 7, 8, 9, 10, 11, 0] rfl)
                            · have hlt := nn_nle (a := ap) (b := a) (by omega) (by omega) hlt
                              refine lv_aload_n hx hb dX8_broken_348 rfl (lv_at hl 0 rfl) ?_
                              refine lv_iload hx hb dX8_broken_349 (lv_at hl 11 rfl) ?_
                              refine lv_iload hx hb dX8_broken_351 (lv_at hl 8 rfl) ?_
                              refine lv_iload hx hb dX8_broken_353 (lv_at hl 9 rfl) ?_
                              refine mp_calli (va_runV (As := [.int (nI a), .int d, .int k]) (rest := []) ⟨hx, hb, hml, hown, hts⟩ (c_X8_stood l X G A B h ad n f a (by omega) d k) (cwV 3 hts gX8_broken_X8_stood rfl rfl rfl (by decide +kernel) ⟨Nat.le_of_ble_eq_true rfl, Nat.le_of_ble_eq_true rfl⟩) (mp_preV hC hS hM (md_recv hC hM)) rfl rfl hl.1 rfl (lv_room (Nat.le_of_ble_eq_true rfl)) dX8_broken_355 ⟨Nat.le_of_ble_eq_true rfl, Nat.le_of_ble_eq_true rfl⟩) hS (fun H locs hM hS => ?_)
                              refine lv_if_eq (tgt := 379) hx hb dX8_broken_358 (by decide) (fun c12 => ?_) (fun c12 => ?_)
                              · have c12 : (pB (md_stood f a d k)) = false := bI_0.mp c12
                                refine lv_iinc (v := nI (a + 1)) (lv' := [(12, .int (nI (a + 1))), (0, .ref h), (1, .int (nI r)), (2, .int x0), (3, .int y0), (4, .int x1), (5, .int y1), (6, .int ht), (7, .int us), (8, .int d), (9, .int k), (11, .int (nI z))]) hx hb dX8_broken_379 hl (k := 11) rfl (nI_1 a) (by decide) rfl (fun ls hl => ?_)
                                refine lv_goto (tgt := 339) hx hb dX8_broken_382 (by decide) ?_
                                exact ih2 (a + 1) ls _ _ (by omega) (by omega) (fun u hu => by
                                  by_cases hua : u < a
                                  · exact hinv u hua
                                  · rw [show u = a by omega]; exact fun q => pB_not.mp c12 q.1) hM hS (lv_sub hl [1, 2, 3, 4, 5, 6, 7, 8, 9, 10, 11, 0] rfl)
                              · have c12 : (pB (md_stood f a d k)) = true := bI_1.mp c12
                                refine lv_aload_n hx hb dX8_broken_361 rfl (lv_at hl 0 rfl) ?_
                                refine lv_iload hx hb dX8_broken_362 (lv_at hl 11 rfl) ?_
                                refine lv_iload_n hx hb dX8_broken_364 rfl (lv_at hl 2 rfl) ?_
                                refine lv_iload_n hx hb dX8_broken_365 rfl (lv_at hl 3 rfl) ?_
                                refine lv_iload hx hb dX8_broken_366 (lv_at hl 4 rfl) ?_
                                refine lv_iload hx hb dX8_broken_368 (lv_at hl 5 rfl) ?_
                                refine mp_calli (va_runV (As := [.int (nI a), .int x0, .int y0, .int x1, .int y1]) (rest := []) ⟨hx, hb, hml, hown, hts⟩ (c_X8_meets l X G A B h ad n f a (by omega) x0 y0 x1 y1) (cwV 5 hts gX8_broken_X8_meets rfl rfl rfl (by decide +kernel) ⟨Nat.le_of_ble_eq_true rfl, Nat.le_of_ble_eq_true rfl⟩) (mp_preV hC hS hM (md_recv hC hM)) rfl rfl hl.1 rfl (lv_room (Nat.le_of_ble_eq_true rfl)) dX8_broken_370 ⟨Nat.le_of_ble_eq_true rfl, Nat.le_of_ble_eq_true rfl⟩) hS (fun H locs hM hS => ?_)
                                refine lv_if_eq (tgt := 379) hx hb dX8_broken_373 (by decide) (fun c13 => ?_) (fun c13 => ?_)
                                · have c13 : (pB (md_meets f a x0 y0 x1 y1)) = false := bI_0.mp c13
                                  refine lv_iinc (v := nI (a + 1)) (lv' := [(12, .int (nI (a + 1))), (0, .ref h), (1, .int (nI r)), (2, .int x0), (3, .int y0), (4, .int x1), (5, .int y1), (6, .int ht), (7, .int us), (8, .int d), (9, .int k), (11, .int (nI z))]) hx hb dX8_broken_379 hl (k := 11) rfl (nI_1 a) (by decide) rfl (fun ls hl => ?_)
                                  refine lv_goto (tgt := 339) hx hb dX8_broken_382 (by decide) ?_
                                  exact ih2 (a + 1) ls _ _ (by omega) (by omega) (fun u hu => by
                                    by_cases hua : u < a
                                    · exact hinv u hua
                                    · rw [show u = a by omega]; exact fun q => pB_not.mp c13 q.2) hM hS (lv_sub hl [1, 2, 3, 4, 5, 6, 7, 8, 9, 10, 11, 0] rfl)
                                · have c13 : (pB (md_meets f a x0 y0 x1 y1)) = true := bI_1.mp c13
                                  refine lv_bipush (v := (7 : Int32)) hx hb dX8_broken_376 (by decide) ?_
                                  exact mp_iret hx hb hr hlocks (Nat.le_of_ble_eq_true rfl) (Nat.le_of_ble_eq_true rfl) hM hS dX8_broken_378 (⟨by rw [hE7, md_s7, pB_t ⟨a, hlt, pB_iff.mp c12, pB_iff.mp c13⟩]; rfl, rfl⟩)
                        exact LP339 _ 0 ls _ _ (Nat.lt_succ_self _) (Nat.zero_le _) (fun u hu => absurd hu (Nat.not_lt_zero u)) hM hS (lv_sub hl [1, 2, 3, 4, 5, 6, 7, 8, 9, 10, 11, 0] rfl)
                      refine lv_aload_n hx hb dX8_broken_293 rfl (lv_at hl 0 rfl) ?_
                      refine md_getr hx hb hts hin_wsX80 hown hC hM 20 (by decide) rfl fl_45 dX8_broken_294 ?_
                      refine lv_iconst (v := (4 : Int32)) hx hb dX8_broken_297 (by decide) ?_
                      refine lv_iload hx hb dX8_broken_298 (lv_at hl 10 rfl) ?_
                      refine lv_imul hx hb dX8_broken_300 ?_
                      refine mp_top (nI (4 * z)) (pk_mul 4 z) ?_
                      refine lv_iconst (v := (2 : Int32)) hx hb dX8_broken_301 (by decide) ?_
                      refine lv_iadd hx hb dX8_broken_302 ?_
                      refine mp_top (nI ((4 * z) + 2)) (nI_add (4 * z) 2) ?_
                      refine md_iald hx hb hC hM 20 rfl (j := (4 * z) + 2) (by omega) (by decide) dX8_broken_303 ?_
                      refine lv_iconst (v := (-1 : Int32)) hx hb dX8_broken_304 (by decide) ?_
                      refine lv_icmp_eq (tgt := 336) hx hb dX8_broken_305 (by decide) (fun c10 => ?_) (fun c10 => ?_)
                      · have c10 := c10
                        exact LP336 ls _ _ (by rw [hE6, md_s6, pB_f (fun q => q.1 c10)]; rfl) hM hS (lv_sub hl [0, 1, 2, 3, 4, 5, 6, 7, 8, 9, 10] rfl)
                      · have c10 := c10
                        refine lv_aload_n hx hb dX8_broken_308 rfl (lv_at hl 0 rfl) ?_
                        refine lv_iload_n hx hb dX8_broken_309 rfl (lv_at hl 1 rfl) ?_
                        refine lv_iload_n hx hb dX8_broken_310 rfl (lv_at hl 2 rfl) ?_
                        refine lv_iload_n hx hb dX8_broken_311 rfl (lv_at hl 3 rfl) ?_
                        refine lv_iload hx hb dX8_broken_312 (lv_at hl 4 rfl) ?_
                        refine lv_iload hx hb dX8_broken_314 (lv_at hl 5 rfl) ?_
                        refine lv_aload_n hx hb dX8_broken_316 rfl (lv_at hl 0 rfl) ?_
                        refine md_getr hx hb hts hin_wsX80 hown hC hM 20 (by decide) rfl fl_45 dX8_broken_317 ?_
                        refine lv_iconst (v := (4 : Int32)) hx hb dX8_broken_320 (by decide) ?_
                        refine lv_iload hx hb dX8_broken_321 (lv_at hl 10 rfl) ?_
                        refine lv_imul hx hb dX8_broken_323 ?_
                        refine mp_top (nI (4 * z)) (pk_mul 4 z) ?_
                        refine lv_iconst (v := (2 : Int32)) hx hb dX8_broken_324 (by decide) ?_
                        refine lv_iadd hx hb dX8_broken_325 ?_
                        refine mp_top (nI ((4 * z) + 2)) (nI_add (4 * z) 2) ?_
                        refine md_iald hx hb hC hM 20 rfl (j := (4 * z) + 2) (by omega) (by decide) dX8_broken_326 ?_
                        refine mp_calli (va_runV (As := [.int (nI r), .int x0, .int y0, .int x1, .int y1, .int (f 20 ((4 * z) + 2))]) (rest := []) ⟨hx, hb, hml, hown, hts⟩ (c_X8_isTight l X G A B h ad n f r cn (by omega) (by omega) (by omega) hcn x0 y0 x1 y1 (f 20 ((4 * z) + 2))) (cwV 6 hts gX8_broken_X8_isTight rfl rfl rfl (by decide +kernel) ⟨Nat.le_of_ble_eq_true rfl, Nat.le_of_ble_eq_true rfl⟩) (mp_preV hC hS hM (md_recv hC hM)) rfl rfl hl.1 rfl (lv_room (Nat.le_of_ble_eq_true rfl)) dX8_broken_327 ⟨Nat.le_of_ble_eq_true rfl, Nat.le_of_ble_eq_true rfl⟩) hS (fun H locs hM hS => ?_)
                        refine lv_if_eq (tgt := 336) hx hb dX8_broken_330 (by decide) (fun c11 => ?_) (fun c11 => ?_)
                        · have c11 : (pB (md_tight (md_rg f r cn) x0 y0 x1 y1 (f 20 ((4 * z) + 2)).toInt64)) = false := bI_0.mp c11
                          exact LP336 ls _ _ (by rw [hE6, md_s6, pB_f (fun q => pB_not.mp c11 q.2)]; rfl) hM hS (lv_sub hl [0, 1, 2, 3, 4, 5, 6, 7, 8, 9, 10] rfl)
                        · have c11 : (pB (md_tight (md_rg f r cn) x0 y0 x1 y1 (f 20 ((4 * z) + 2)).toInt64)) = true := bI_1.mp c11
                          refine lv_bipush (v := (6 : Int32)) hx hb dX8_broken_333 (by decide) ?_
                          exact mp_iret hx hb hr hlocks (Nat.le_of_ble_eq_true rfl) (Nat.le_of_ble_eq_true rfl) hM hS dX8_broken_335 (⟨by rw [hE6, md_s6, pB_t ⟨c10, pB_iff.mp c11⟩]; rfl, rfl⟩)
                    refine lv_aload_n hx hb dX8_broken_157 rfl (lv_at hl 0 rfl) ?_
                    refine md_getr hx hb hts hin_wsX80 hown hC hM 20 (by decide) rfl fl_45 dX8_broken_158 ?_
                    refine lv_iconst (v := (4 : Int32)) hx hb dX8_broken_161 (by decide) ?_
                    refine lv_iload hx hb dX8_broken_162 (lv_at hl 10 rfl) ?_
                    refine lv_imul hx hb dX8_broken_164 ?_
                    refine mp_top (nI (4 * z)) (pk_mul 4 z) ?_
                    refine lv_iconst (v := (1 : Int32)) hx hb dX8_broken_165 (by decide) ?_
                    refine lv_iadd hx hb dX8_broken_166 ?_
                    refine mp_top (nI ((4 * z) + 1)) (nI_add (4 * z) 1) ?_
                    refine md_iald hx hb hC hM 20 rfl (j := (4 * z) + 1) (by omega) (by decide) dX8_broken_167 ?_
                    refine lv_iconst (v := (-1 : Int32)) hx hb dX8_broken_168 (by decide) ?_
                    refine lv_icmp_eq (tgt := 293) hx hb dX8_broken_169 (by decide) (fun c8 => ?_) (fun c8 => ?_)
                    · have c8 := c8
                      exact LP293 ls _ _ (by rw [hE5, md_s5, pB_f (fun q => q.1 c8)]; rfl) hM hS (lv_sub hl [0, 1, 2, 3, 4, 5, 6, 7, 8, 9, 10] rfl)
                    · have c8 := c8
                      refine lv_iload hx hb dX8_broken_172 (lv_at hl 4 rfl) ?_
                      refine lv_iload_n hx hb dX8_broken_174 rfl (lv_at hl 2 rfl) ?_
                      refine lv_isub hx hb dX8_broken_175 ?_
                      refine lv_iload hx hb dX8_broken_176 (lv_at hl 5 rfl) ?_
                      refine lv_iload_n hx hb dX8_broken_178 rfl (lv_at hl 3 rfl) ?_
                      refine lv_isub hx hb dX8_broken_179 ?_
                      refine lv_imul hx hb dX8_broken_180 ?_
                      refine lv_istore (lv' := [(12, .int ((x1 - x0) * (y1 - y0))), (0, .ref h), (1, .int (nI r)), (2, .int x0), (3, .int y0), (4, .int x1), (5, .int y1), (6, .int ht), (7, .int us), (8, .int d), (9, .int k), (11, .int (nI z))]) hx hb dX8_broken_181 hl (by decide) rfl (fun ls hl => ?_)
                      refine lv_iconst (v := (0 : Int32)) hx hb dX8_broken_183 (by decide) ?_
                      refine lv_istore (lv' := [(13, .int (0 : Int32)), (12, .int ((x1 - x0) * (y1 - y0))), (0, .ref h), (1, .int (nI r)), (2, .int x0), (3, .int y0), (4, .int x1), (5, .int y1), (6, .int ht), (7, .int us), (8, .int d), (9, .int k), (11, .int (nI z))]) hx hb dX8_broken_184 hl (by decide) rfl (fun ls hl => ?_)
                      have LP186 : ∀ (kk : Nat) (a : Nat) (ls : Array Slot) (H : Heap) (locs : List Loc), ap - a < kk → a ≤ ap → mp_P G.1 A (md_M G B h ad n f) H → va_S A s.heap H locs → lv_has ls 14 [(0, .ref h), (1, .int (nI r)), (2, .int x0), (3, .int y0), (4, .int x1), (5, .int y1), (6, .int ht), (7, .int us), (8, .int d), (9, .int k), (11, .int (nI z)), (12, .int (md_cov f r d k ((x1 - x0) * (y1 - y0)) a)), (13, .int (nI a))] → W p l e rmX8_broken s m ([.ref h, .int (nI r), .int x0, .int y0, .int x1, .int y1, .int ht, .int us, .int d, .int k] : List Value).toArray below meth c H locs 0 0 (MQ below (mp_Q G.1 A (fun v M1 => v = some (.int (md_broken f pn ap zmf r cn x0 y0 x1 y1 ht us d k)) ∧ M1 = md_M G B h ad n f)) ([.ref h, .int (nI r), .int x0, .int y0, .int x1, .int y1, .int ht, .int us, .int d, .int k] : List Value).toArray s 0 0 A) (F0 m 186 ls []) := by
                        intro kk
                        induction kk with
                        | zero => intro a ls H locs hk; exact absurd hk (Nat.not_lt_zero _)
                        | succ kk ih2 =>
                          intro a ls H locs hk ha hM hS hl
                          refine lv_iload hx hb dX8_broken_186 (lv_at hl 12 rfl) ?_
                          refine lv_aload_n hx hb dX8_broken_188 rfl (lv_at hl 0 rfl) ?_
                          refine md_geti hx hb hts hin_wsX80 hown hC hM 4 (by decide) rfl fl_122 dX8_broken_189 ?_
                          refine mp_top (nI ap) hap ?_
                          refine lv_icmp_ge (tgt := 261) hx hb dX8_broken_192 (by decide) (fun hlt => ?_) (fun hlt => ?_)
                          · have hlt := nn_le (a := ap) (b := a) (by omega) (by omega) hlt
                            have ea : a = ap := by omega
                            refine lv_ldc2 (v := 200) hx hb hown hw_246 dX8_broken_261 ?_
                            refine lv_iload hx hb dX8_broken_264 (lv_at hl 11 rfl) ?_
                            refine lv_i2l hx hb dX8_broken_266 rfl ?_
                            refine lv_lmul hx hb dX8_broken_267 ?_
                            refine lv_aload_n hx hb dX8_broken_268 rfl (lv_at hl 0 rfl) ?_
                            refine md_getr hx hb hts hin_wsX80 hown hC hM 20 (by decide) rfl fl_45 dX8_broken_269 ?_
                            refine lv_iconst (v := (4 : Int32)) hx hb dX8_broken_272 (by decide) ?_
                            refine lv_iload hx hb dX8_broken_273 (lv_at hl 10 rfl) ?_
                            refine lv_imul hx hb dX8_broken_275 ?_
                            refine mp_top (nI (4 * z)) (pk_mul 4 z) ?_
                            refine lv_iconst (v := (1 : Int32)) hx hb dX8_broken_276 (by decide) ?_
                            refine lv_iadd hx hb dX8_broken_277 ?_
                            refine mp_top (nI ((4 * z) + 1)) (nI_add (4 * z) 1) ?_
                            refine md_iald hx hb hC hM 20 rfl (j := (4 * z) + 1) (by omega) (by decide) dX8_broken_278 ?_
                            refine lv_i2l hx hb dX8_broken_279 rfl ?_
                            refine lv_aload_n hx hb dX8_broken_280 rfl (lv_at hl 0 rfl) ?_
                            refine lv_iload_n hx hb dX8_broken_281 rfl (lv_at hl 1 rfl) ?_
                            refine mp_calli (va_runV (As := [.int (nI r)]) (rest := [.long ((f 20 ((4 * z) + 1)).toInt64), .long ((200 : Int64) * ((md_cov f r d k ((x1 - x0) * (y1 - y0)) a).toInt64))]) ⟨hx, hb, hml, hown, hts⟩ (c_X8_area l X G A B h ad n f r cn (by omega) (by omega) (by omega) hcn) (cwV 1 hts gX8_broken_X8_area rfl rfl rfl (by decide +kernel) ⟨Nat.le_of_ble_eq_true rfl, Nat.le_of_ble_eq_true rfl⟩) (mp_preV hC hS hM (md_recv hC hM)) rfl rfl hl.1 rfl (lv_room (Nat.le_of_ble_eq_true rfl)) dX8_broken_282 ⟨Nat.le_of_ble_eq_true rfl, Nat.le_of_ble_eq_true rfl⟩) hS (fun H locs hM hS => ?_)
                            refine lv_i2l hx hb dX8_broken_285 rfl ?_
                            refine lv_lmul hx hb dX8_broken_286 ?_
                            refine W.lcmp hx hb dX8_broken_287 ?_
                            refine lv_if_le (tgt := 293) hx hb dX8_broken_288 (by decide) (fun c9 => ?_) (fun c9 => ?_)
                            · have c9 := (lg_cmp_le _ _).mp c9
                              exact LP293 ls _ _ (by rw [hE5, md_s5, pB_f (fun q => absurd c9 (l_nle.mpr (by have z := q.2; rw [← ea] at z; exact z)))]; rfl) hM hS (lv_sub hl [0, 1, 2, 3, 4, 5, 6, 7, 8, 9, 10] rfl)
                            · have c9 := fun q => c9 ((lg_cmp_le _ _).mpr q)
                              refine lv_iconst (v := (5 : Int32)) hx hb dX8_broken_291 (by decide) ?_
                              exact mp_iret hx hb hr hlocks (Nat.le_of_ble_eq_true rfl) (Nat.le_of_ble_eq_true rfl) hM hS dX8_broken_292 (⟨by rw [hE5, md_s5, pB_t ⟨c8, by have z := l_nle.mp c9; rw [ea] at z; exact z⟩]; rfl, rfl⟩)
                          · have hlt := nn_nle (a := ap) (b := a) (by omega) (by omega) hlt
                            refine lv_aload_n hx hb dX8_broken_195 rfl (lv_at hl 0 rfl) ?_
                            refine md_getr hx hb hts hin_wsX80 hown hC hM 23 (by decide) rfl fl_48 dX8_broken_196 ?_
                            refine lv_iload hx hb dX8_broken_199 (lv_at hl 12 rfl) ?_
                            refine md_iald hx hb hC hM 23 rfl (j := a) (by omega) (by decide) dX8_broken_201 ?_
                            refine lv_iload_n hx hb dX8_broken_202 rfl (lv_at hl 1 rfl) ?_
                            refine lv_icmp_ne (tgt := 255) hx hb dX8_broken_203 (by decide) (fun cq1 => ?_) (fun cq1 => ?_)
                            · have cq1 := cq1
                              refine lv_iinc (v := nI (a + 1)) (lv' := [(13, .int (nI (a + 1))), (0, .ref h), (1, .int (nI r)), (2, .int x0), (3, .int y0), (4, .int x1), (5, .int y1), (6, .int ht), (7, .int us), (8, .int d), (9, .int k), (11, .int (nI z)), (12, .int (md_cov f r d k ((x1 - x0) * (y1 - y0)) a))]) hx hb dX8_broken_255 hl (k := 12) rfl (nI_1 a) (by decide) rfl (fun ls hl => ?_)
                              refine lv_goto (tgt := 186) hx hb dX8_broken_258 (by decide) ?_
                              exact ih2 (a + 1) ls _ _ (by omega) (by omega) hM hS (by have e : md_cov f r d k ((x1 - x0) * (y1 - y0)) (a + 1) = md_cov f r d k ((x1 - x0) * (y1 - y0)) a := (by rw [md_cov, pB_f (fun q => cq1 q.1)]; rfl); rw [e]; exact lv_sub hl [1, 2, 3, 4, 5, 6, 7, 8, 9, 10, 11, 12, 0] rfl)
                            · have cq1 := cq1
                              refine lv_aload_n hx hb dX8_broken_206 rfl (lv_at hl 0 rfl) ?_
                              refine lv_iload hx hb dX8_broken_207 (lv_at hl 12 rfl) ?_
                              refine lv_iload hx hb dX8_broken_209 (lv_at hl 8 rfl) ?_
                              refine lv_iload hx hb dX8_broken_211 (lv_at hl 9 rfl) ?_
                              refine mp_calli (va_runV (As := [.int (nI a), .int d, .int k]) (rest := []) ⟨hx, hb, hml, hown, hts⟩ (c_X8_stood l X G A B h ad n f a (by omega) d k) (cwV 3 hts gX8_broken_X8_stood rfl rfl rfl (by decide +kernel) ⟨Nat.le_of_ble_eq_true rfl, Nat.le_of_ble_eq_true rfl⟩) (mp_preV hC hS hM (md_recv hC hM)) rfl rfl hl.1 rfl (lv_room (Nat.le_of_ble_eq_true rfl)) dX8_broken_213 ⟨Nat.le_of_ble_eq_true rfl, Nat.le_of_ble_eq_true rfl⟩) hS (fun H locs hM hS => ?_)
                              refine lv_if_eq (tgt := 255) hx hb dX8_broken_216 (by decide) (fun cq2 => ?_) (fun cq2 => ?_)
                              · have cq2 : (pB (md_stood f a d k)) = false := bI_0.mp cq2
                                refine lv_iinc (v := nI (a + 1)) (lv' := [(13, .int (nI (a + 1))), (0, .ref h), (1, .int (nI r)), (2, .int x0), (3, .int y0), (4, .int x1), (5, .int y1), (6, .int ht), (7, .int us), (8, .int d), (9, .int k), (11, .int (nI z)), (12, .int (md_cov f r d k ((x1 - x0) * (y1 - y0)) a))]) hx hb dX8_broken_255 hl (k := 12) rfl (nI_1 a) (by decide) rfl (fun ls hl => ?_)
                                refine lv_goto (tgt := 186) hx hb dX8_broken_258 (by decide) ?_
                                exact ih2 (a + 1) ls _ _ (by omega) (by omega) hM hS (by have e : md_cov f r d k ((x1 - x0) * (y1 - y0)) (a + 1) = md_cov f r d k ((x1 - x0) * (y1 - y0)) a := (by rw [md_cov, pB_f (fun q => pB_not.mp cq2 q.2)]; rfl); rw [e]; exact lv_sub hl [1, 2, 3, 4, 5, 6, 7, 8, 9, 10, 11, 12, 0] rfl)
                              · have cq2 : (pB (md_stood f a d k)) = true := bI_1.mp cq2
                                refine lv_iload hx hb dX8_broken_219 (lv_at hl 11 rfl) ?_
                                refine lv_aload_n hx hb dX8_broken_221 rfl (lv_at hl 0 rfl) ?_
                                refine md_getr hx hb hts hin_wsX80 hown hC hM 26 (by decide) rfl fl_57 dX8_broken_222 ?_
                                refine lv_iload hx hb dX8_broken_225 (lv_at hl 12 rfl) ?_
                                refine md_iald hx hb hC hM 26 rfl (j := a) (by omega) (by decide) dX8_broken_227 ?_
                                refine lv_aload_n hx hb dX8_broken_228 rfl (lv_at hl 0 rfl) ?_
                                refine md_getr hx hb hts hin_wsX80 hown hC hM 24 (by decide) rfl fl_51 dX8_broken_229 ?_
                                refine lv_iload hx hb dX8_broken_232 (lv_at hl 12 rfl) ?_
                                refine md_iald hx hb hC hM 24 rfl (j := a) (by omega) (by decide) dX8_broken_234 ?_
                                refine lv_isub hx hb dX8_broken_235 ?_
                                refine lv_aload_n hx hb dX8_broken_236 rfl (lv_at hl 0 rfl) ?_
                                refine md_getr hx hb hts hin_wsX80 hown hC hM 27 (by decide) rfl fl_60 dX8_broken_237 ?_
                                refine lv_iload hx hb dX8_broken_240 (lv_at hl 12 rfl) ?_
                                refine md_iald hx hb hC hM 27 rfl (j := a) (by omega) (by decide) dX8_broken_242 ?_
                                refine lv_aload_n hx hb dX8_broken_243 rfl (lv_at hl 0 rfl) ?_
                                refine md_getr hx hb hts hin_wsX80 hown hC hM 25 (by decide) rfl fl_54 dX8_broken_244 ?_
                                refine lv_iload hx hb dX8_broken_247 (lv_at hl 12 rfl) ?_
                                refine md_iald hx hb hC hM 25 rfl (j := a) (by omega) (by decide) dX8_broken_249 ?_
                                refine lv_isub hx hb dX8_broken_250 ?_
                                refine lv_imul hx hb dX8_broken_251 ?_
                                refine lv_iadd hx hb dX8_broken_252 ?_
                                refine lv_istore (lv' := [(12, .int ((md_cov f r d k ((x1 - x0) * (y1 - y0)) a) + (((f 26 a) - (f 24 a)) * ((f 27 a) - (f 25 a))))), (0, .ref h), (1, .int (nI r)), (2, .int x0), (3, .int y0), (4, .int x1), (5, .int y1), (6, .int ht), (7, .int us), (8, .int d), (9, .int k), (11, .int (nI z)), (13, .int (nI a))]) hx hb dX8_broken_253 hl (by decide) rfl (fun ls hl => ?_)
                                refine lv_iinc (v := nI (a + 1)) (lv' := [(13, .int (nI (a + 1))), (12, .int ((md_cov f r d k ((x1 - x0) * (y1 - y0)) a) + (((f 26 a) - (f 24 a)) * ((f 27 a) - (f 25 a))))), (0, .ref h), (1, .int (nI r)), (2, .int x0), (3, .int y0), (4, .int x1), (5, .int y1), (6, .int ht), (7, .int us), (8, .int d), (9, .int k), (11, .int (nI z))]) hx hb dX8_broken_255 hl (k := 12) rfl (nI_1 a) (by decide) rfl (fun ls hl => ?_)
                                refine lv_goto (tgt := 186) hx hb dX8_broken_258 (by decide) ?_
                                exact ih2 (a + 1) ls _ _ (by omega) (by omega) hM hS (by have e : md_cov f r d k ((x1 - x0) * (y1 - y0)) (a + 1) = (md_cov f r d k ((x1 - x0) * (y1 - y0)) a) + (((f 26 a) - (f 24 a)) * ((f 27 a) - (f 25 a))) := (by rw [md_cov, pB_t ⟨cq1, pB_iff.mp cq2⟩]; rfl); rw [e]; exact lv_sub hl [2, 3, 4, 5, 6, 7, 8, 9, 10, 11, 12, 1, 0] rfl)
                      exact LP186 _ 0 ls _ _ (Nat.lt_succ_self _) (Nat.zero_le _) hM hS (lv_sub hl [2, 3, 4, 5, 6, 7, 8, 9, 10, 11, 12, 1, 0] rfl)
                  refine lv_aload_n hx hb dX8_broken_128 rfl (lv_at hl 2 rfl) ?_
                  refine md_getr hx hb hts hin_wsX80 hown hC hM 20 (by decide) rfl fl_45 dX8_broken_129 ?_
                  refine lv_iconst (v := (4 : Int32)) hx hb dX8_broken_132 (by decide) ?_
                  refine lv_iload hx hb dX8_broken_133 (lv_at hl 0 rfl) ?_
                  refine lv_imul hx hb dX8_broken_135 ?_
                  refine mp_top (nI (4 * z)) (pk_mul 4 z) ?_
                  refine md_iald hx hb hC hM 20 rfl (j := 4 * z) (by omega) (by decide) dX8_broken_136 ?_
                  refine lv_iconst (v := (-1 : Int32)) hx hb dX8_broken_137 (by decide) ?_
                  refine lv_icmp_eq (tgt := 157) hx hb dX8_broken_138 (by decide) (fun c6 => ?_) (fun c6 => ?_)
                  · have c6 := c6
                    exact LP157 ls _ _ (by rw [E4, md_s4, pB_f (fun q => q.1 c6)]; rfl) hM hS (lv_sub hl [2, 3, 4, 5, 6, 7, 8, 9, 10, 11, 0] rfl)
                  · have c6 := c6
                    refine lv_iload hx hb dX8_broken_141 (lv_at hl 8 rfl) ?_
                    refine lv_aload_n hx hb dX8_broken_143 rfl (lv_at hl 2 rfl) ?_
                    refine md_getr hx hb hts hin_wsX80 hown hC hM 20 (by decide) rfl fl_45 dX8_broken_144 ?_
                    refine lv_iconst (v := (4 : Int32)) hx hb dX8_broken_147 (by decide) ?_
                    refine lv_iload hx hb dX8_broken_148 (lv_at hl 0 rfl) ?_
                    refine lv_imul hx hb dX8_broken_150 ?_
                    refine mp_top (nI (4 * z)) (pk_mul 4 z) ?_
                    refine md_iald hx hb hC hM 20 rfl (j := 4 * z) (by omega) (by decide) dX8_broken_151 ?_
                    refine lv_icmp_le (tgt := 157) hx hb dX8_broken_152 (by decide) (fun c7 => ?_) (fun c7 => ?_)
                    · have c7 := c7
                      exact LP157 ls _ _ (by rw [E4, md_s4, pB_f (fun q => absurd c7 (i_nle.mpr q.2))]; rfl) hM hS (lv_sub hl [2, 3, 4, 5, 6, 7, 8, 9, 10, 11, 0] rfl)
                    · have c7 := c7
                      refine lv_iconst (v := (4 : Int32)) hx hb dX8_broken_155 (by decide) ?_
                      exact mp_iret hx hb hr hlocks (Nat.le_of_ble_eq_true rfl) (Nat.le_of_ble_eq_true rfl) hM hS dX8_broken_156 (⟨by rw [E4, md_s4, pB_t ⟨c6, i_nle.mp c7⟩]; rfl, rfl⟩)
                · have c5 := c5
                  refine lv_iconst (v := (3 : Int32)) hx hb dX8_broken_126 (by decide) ?_
                  exact mp_iret hx hb hr hlocks (Nat.le_of_ble_eq_true rfl) (Nat.le_of_ble_eq_true rfl) hM hS dX8_broken_127 (⟨by rw [E2, md_s3, pB_t c5]; rfl, rfl⟩)
              · have c_7 := c_7
                exact absurd c_7 (nI_nm1 (by omega))
          · have c_4 := c_4
            exact absurd c_4 (nI_nm1 (by omega))
      · have hlt := nn_nle (a := cn) (b := i) (by omega) (by omega) hlt
        refine lv_aload_n hx hb dX8_broken_14 rfl (lv_at hl 0 rfl) ?_
        refine lv_iload_n hx hb dX8_broken_15 rfl (lv_at hl 1 rfl) ?_
        refine lv_iload hx hb dX8_broken_16 (lv_at hl 10 rfl) ?_
        refine lv_iload_n hx hb dX8_broken_18 rfl (lv_at hl 2 rfl) ?_
        refine lv_iload_n hx hb dX8_broken_19 rfl (lv_at hl 3 rfl) ?_
        refine mp_calli (va_runV (As := [.int (nI r), .int (nI i), .int x0, .int y0]) (rest := []) ⟨hx, hb, hml, hown, hts⟩ (c_X8_left l X G A B h ad n f r i cn x0 y0 (by omega) (by omega) (by omega) (by omega) hcn) (cwV 4 hts gX8_broken_X8_left rfl rfl rfl (by decide +kernel) ⟨Nat.le_of_ble_eq_true rfl, Nat.le_of_ble_eq_true rfl⟩) (mp_preV hC hS hM (md_recv hC hM)) rfl rfl hl.1 rfl (lv_room (Nat.le_of_ble_eq_true rfl)) dX8_broken_20 ⟨Nat.le_of_ble_eq_true rfl, Nat.le_of_ble_eq_true rfl⟩) hS (fun H locs hM hS => ?_)
        refine lv_if_lt (tgt := 66) hx hb dX8_broken_23 (by decide) (fun c1 => ?_) (fun c1 => ?_)
        · have c1 := c1
          refine lv_iconst (v := (1 : Int32)) hx hb dX8_broken_66 (by decide) ?_
          exact mp_iret hx hb hr hlocks (Nat.le_of_ble_eq_true rfl) (Nat.le_of_ble_eq_true rfl) hM hS dX8_broken_67 (⟨by rw [md_broken, pB_t ⟨i, hlt, Or.inl c1⟩]; rfl, rfl⟩)
        · have c1 := c1
          refine lv_aload_n hx hb dX8_broken_26 rfl (lv_at hl 0 rfl) ?_
          refine lv_iload_n hx hb dX8_broken_27 rfl (lv_at hl 1 rfl) ?_
          refine lv_iload hx hb dX8_broken_28 (lv_at hl 10 rfl) ?_
          refine lv_iload hx hb dX8_broken_30 (lv_at hl 4 rfl) ?_
          refine lv_iload_n hx hb dX8_broken_32 rfl (lv_at hl 3 rfl) ?_
          refine mp_calli (va_runV (As := [.int (nI r), .int (nI i), .int x1, .int y0]) (rest := []) ⟨hx, hb, hml, hown, hts⟩ (c_X8_left l X G A B h ad n f r i cn x1 y0 (by omega) (by omega) (by omega) (by omega) hcn) (cwV 4 hts gX8_broken_X8_left rfl rfl rfl (by decide +kernel) ⟨Nat.le_of_ble_eq_true rfl, Nat.le_of_ble_eq_true rfl⟩) (mp_preV hC hS hM (md_recv hC hM)) rfl rfl hl.1 rfl (lv_room (Nat.le_of_ble_eq_true rfl)) dX8_broken_33 ⟨Nat.le_of_ble_eq_true rfl, Nat.le_of_ble_eq_true rfl⟩) hS (fun H locs hM hS => ?_)
          refine lv_if_lt (tgt := 66) hx hb dX8_broken_36 (by decide) (fun c2 => ?_) (fun c2 => ?_)
          · have c2 := c2
            refine lv_iconst (v := (1 : Int32)) hx hb dX8_broken_66 (by decide) ?_
            exact mp_iret hx hb hr hlocks (Nat.le_of_ble_eq_true rfl) (Nat.le_of_ble_eq_true rfl) hM hS dX8_broken_67 (⟨by rw [md_broken, pB_t ⟨i, hlt, Or.inr (Or.inl c2)⟩]; rfl, rfl⟩)
          · have c2 := c2
            refine lv_aload_n hx hb dX8_broken_39 rfl (lv_at hl 0 rfl) ?_
            refine lv_iload_n hx hb dX8_broken_40 rfl (lv_at hl 1 rfl) ?_
            refine lv_iload hx hb dX8_broken_41 (lv_at hl 10 rfl) ?_
            refine lv_iload_n hx hb dX8_broken_43 rfl (lv_at hl 2 rfl) ?_
            refine lv_iload hx hb dX8_broken_44 (lv_at hl 5 rfl) ?_
            refine mp_calli (va_runV (As := [.int (nI r), .int (nI i), .int x0, .int y1]) (rest := []) ⟨hx, hb, hml, hown, hts⟩ (c_X8_left l X G A B h ad n f r i cn x0 y1 (by omega) (by omega) (by omega) (by omega) hcn) (cwV 4 hts gX8_broken_X8_left rfl rfl rfl (by decide +kernel) ⟨Nat.le_of_ble_eq_true rfl, Nat.le_of_ble_eq_true rfl⟩) (mp_preV hC hS hM (md_recv hC hM)) rfl rfl hl.1 rfl (lv_room (Nat.le_of_ble_eq_true rfl)) dX8_broken_46 ⟨Nat.le_of_ble_eq_true rfl, Nat.le_of_ble_eq_true rfl⟩) hS (fun H locs hM hS => ?_)
            refine lv_if_lt (tgt := 66) hx hb dX8_broken_49 (by decide) (fun c3 => ?_) (fun c3 => ?_)
            · have c3 := c3
              refine lv_iconst (v := (1 : Int32)) hx hb dX8_broken_66 (by decide) ?_
              exact mp_iret hx hb hr hlocks (Nat.le_of_ble_eq_true rfl) (Nat.le_of_ble_eq_true rfl) hM hS dX8_broken_67 (⟨by rw [md_broken, pB_t ⟨i, hlt, Or.inr (Or.inr (Or.inl c3))⟩]; rfl, rfl⟩)
            · have c3 := c3
              refine lv_aload_n hx hb dX8_broken_52 rfl (lv_at hl 0 rfl) ?_
              refine lv_iload_n hx hb dX8_broken_53 rfl (lv_at hl 1 rfl) ?_
              refine lv_iload hx hb dX8_broken_54 (lv_at hl 10 rfl) ?_
              refine lv_iload hx hb dX8_broken_56 (lv_at hl 4 rfl) ?_
              refine lv_iload hx hb dX8_broken_58 (lv_at hl 5 rfl) ?_
              refine mp_calli (va_runV (As := [.int (nI r), .int (nI i), .int x1, .int y1]) (rest := []) ⟨hx, hb, hml, hown, hts⟩ (c_X8_left l X G A B h ad n f r i cn x1 y1 (by omega) (by omega) (by omega) (by omega) hcn) (cwV 4 hts gX8_broken_X8_left rfl rfl rfl (by decide +kernel) ⟨Nat.le_of_ble_eq_true rfl, Nat.le_of_ble_eq_true rfl⟩) (mp_preV hC hS hM (md_recv hC hM)) rfl rfl hl.1 rfl (lv_room (Nat.le_of_ble_eq_true rfl)) dX8_broken_60 ⟨Nat.le_of_ble_eq_true rfl, Nat.le_of_ble_eq_true rfl⟩) hS (fun H locs hM hS => ?_)
              refine lv_if_ge (tgt := 68) hx hb dX8_broken_63 (by decide) (fun c4 => ?_) (fun c4 => ?_)
              · have c4 := c4
                refine lv_iinc (v := nI (i + 1)) (lv' := [(10, .int (nI (i + 1))), (0, .ref h), (1, .int (nI r)), (2, .int x0), (3, .int y0), (4, .int x1), (5, .int y1), (6, .int ht), (7, .int us), (8, .int d), (9, .int k)]) hx hb dX8_broken_68 hl (k := 10) rfl (nI_1 i) (by decide) rfl (fun ls hl => ?_)
                refine lv_goto (tgt := 3) hx hb dX8_broken_71 (by decide) ?_
                exact ih (i + 1) ls _ _ (by omega) (by omega) (fun u hu => by
                  by_cases hui : u < i
                  · exact hinv u hui
                  · rw [show u = i by omega]; exact fun q => q.elim c1 (fun q => q.elim c2 (fun q => q.elim c3 (fun q => absurd c4 (i_nle.mpr q))))) hM hS (lv_sub hl [1, 2, 3, 4, 5, 6, 7, 8, 9, 10, 0] rfl)
              · have c4 := c4
                refine lv_iconst (v := (1 : Int32)) hx hb dX8_broken_66 (by decide) ?_
                exact mp_iret hx hb hr hlocks (Nat.le_of_ble_eq_true rfl) (Nat.le_of_ble_eq_true rfl) hM hS dX8_broken_67 (⟨by rw [md_broken, pB_t ⟨i, hlt, Or.inr (Or.inr (Or.inr (i_nle.mp c4)))⟩]; rfl, rfl⟩)
  exact LP3 _ 0 ls _ _ (Nat.lt_succ_self _) (Nat.zero_le _) (fun u hu => absurd hu (Nat.not_lt_zero u)) hM hS (lv_sub hl [1, 2, 3, 4, 5, 6, 7, 8, 9, 10, 0] rfl)
abbrev rmX8_judge : Room := { frames := 4, cells := 0, slots := 0, locals := 112 }
set_option maxHeartbeats 4000000 in
set_option maxRecDepth 100000 in
theorem c_X8_judge (l : Launch) (X : mp_X) (G : mp_G) (A : Nat → Prop) (B : mp_M) (h : Nat) (ad : Nat → Nat) (n : Nat → Int32) (f : Nat → Nat → Int32) (pl : Nat) (co : Nat → Nat) (hpl : n 1 = nI pl) (hpl9 : pl ≤ 12) (hco : ∀ o, o < pl → f 6 o = nI (co o) ∧ 0 < co o ∧ co o ≤ 8) (pn : Nat) (hpn : n 3 = nI pn) (hpn9 : pn ≤ 20) (zmf : Nat → Nat) (hzmf : ∀ o, o < pn → f 17 o = nI (zmf o) ∧ zmf o ≤ 8) (ap : Nat) (hap : n 4 = nI ap) (hap9 : ap ≤ 40) (q x0 y0 x1 y1 ht us d k : Int32) : mp_Met l X G A yX8_judge wsX8_judge rmX8_judge ([.ref h, .int q, .int x0, .int y0, .int x1, .int y1, .int ht, .int us, .int d, .int k] : List Value) (md_M G B h ad n f) (fun v M1 => v = some (.int (md_judge f pl co pn ap zmf q x0 y0 x1 y1 ht us d k)) ∧ M1 = md_M G B h ad n f) 0 0 := by
  refine mp_ofW (cc := cX8_judge) (maxL := 10) (ret := (some .int)) (by decide) rfl (Nat.le_of_ble_eq_true rfl) ?_
  intro p e s m below meth c ls hx hb hr hts hown hlocks hnm hml hC hM hS hl
  have hl : lv_has ls 10 [(0, .ref h), (1, .int q), (2, .int x0), (3, .int y0), (4, .int x1), (5, .int y1), (6, .int ht), (7, .int us), (8, .int d), (9, .int k)] := hl
  have hown : s.vm.findClass RX8 = some m.cls := hown
  refine lv_aload_n hx hb dX8_judge_0 rfl (lv_at hl 0 rfl) ?_
  refine lv_iload_n hx hb dX8_judge_1 rfl (lv_at hl 1 rfl) ?_
  refine mp_calli (va_runV (As := [.int q]) (rest := []) ⟨hx, hb, hml, hown, hts⟩ (c_X8_isPlot l X G A B h ad n f q) (cwV 1 hts gX8_judge_X8_isPlot rfl rfl rfl (by decide +kernel) ⟨Nat.le_of_ble_eq_true rfl, Nat.le_of_ble_eq_true rfl⟩) (mp_preV hC hS hM (md_recv hC hM)) rfl rfl hl.1 rfl (lv_room (Nat.le_of_ble_eq_true rfl)) dX8_judge_2 ⟨Nat.le_of_ble_eq_true rfl, Nat.le_of_ble_eq_true rfl⟩) hS (fun H locs hM hS => ?_)
  refine lv_if_eq (tgt := 62) hx hb dX8_judge_5 (by decide) (fun c1 => ?_) (fun c1 => ?_)
  · have c1 : (pB (md_in q 0 (n 1 - 1))) = false := bI_0.mp c1
    refine lv_iconst (v := (-1 : Int32)) hx hb dX8_judge_62 (by decide) ?_
    exact mp_iret hx hb hr hlocks (Nat.le_of_ble_eq_true rfl) (Nat.le_of_ble_eq_true rfl) hM hS dX8_judge_63 (⟨by rw [md_judge, pB_f]; rfl; intro q; exact pB_not.mp c1 (by rw [hpl]; exact q.1), rfl⟩)
  · have c1 : (pB (md_in q 0 (n 1 - 1))) = true := bI_1.mp c1
    refine lv_iload_n hx hb dX8_judge_8 rfl (lv_at hl 2 rfl) ?_
    refine lv_iload_n hx hb dX8_judge_9 rfl (lv_at hl 3 rfl) ?_
    refine lv_iload hx hb dX8_judge_10 (lv_at hl 4 rfl) ?_
    refine lv_iload hx hb dX8_judge_12 (lv_at hl 5 rfl) ?_
    refine lv_iload hx hb dX8_judge_14 (lv_at hl 6 rfl) ?_
    refine lv_iload hx hb dX8_judge_16 (lv_at hl 7 rfl) ?_
    refine mp_calli (va_runS (As := [.int x0, .int y0, .int x1, .int y1, .int ht, .int us]) (rest := []) ⟨hx, hb, hml, hown, hts⟩ (c_X8_isDesign l X G A (md_M G B h ad n f) x0 y0 x1 y1 ht us) (va_cwS 6 hts gX8_judge_X8_isDesign rfl rfl rfl (by decide +kernel) ⟨Nat.le_of_ble_eq_true rfl, Nat.le_of_ble_eq_true rfl⟩) (mp_preS hC hS hM) rfl rfl hl.1 rfl (lv_room (Nat.le_of_ble_eq_true rfl)) dX8_judge_18 ⟨Nat.le_of_ble_eq_true rfl, Nat.le_of_ble_eq_true rfl⟩) hS (fun H locs hM hS => ?_)
    refine lv_if_eq (tgt := 62) hx hb dX8_judge_21 (by decide) (fun c2 => ?_) (fun c2 => ?_)
    · have c2 : (pB (md_design x0 y0 x1 y1 ht us)) = false := bI_0.mp c2
      refine lv_iconst (v := (-1 : Int32)) hx hb dX8_judge_62 (by decide) ?_
      exact mp_iret hx hb hr hlocks (Nat.le_of_ble_eq_true rfl) (Nat.le_of_ble_eq_true rfl) hM hS dX8_judge_63 (⟨by rw [md_judge, pB_f]; rfl; intro q; exact pB_not.mp c2 q.2.1, rfl⟩)
    · have c2 : (pB (md_design x0 y0 x1 y1 ht us)) = true := bI_1.mp c2
      refine lv_iload hx hb dX8_judge_24 (lv_at hl 8 rfl) ?_
      refine mp_calli (va_runS (As := [.int d]) (rest := []) ⟨hx, hb, hml, hown, hts⟩ (c_X8_isDay l X G A (md_M G B h ad n f) d) (va_cwS 1 hts gX8_judge_X8_isDay rfl rfl rfl (by decide +kernel) ⟨Nat.le_of_ble_eq_true rfl, Nat.le_of_ble_eq_true rfl⟩) (mp_preS hC hS hM) rfl rfl hl.1 rfl (lv_room (Nat.le_of_ble_eq_true rfl)) dX8_judge_26 ⟨Nat.le_of_ble_eq_true rfl, Nat.le_of_ble_eq_true rfl⟩) hS (fun H locs hM hS => ?_)
      refine lv_if_eq (tgt := 62) hx hb dX8_judge_29 (by decide) (fun c3 => ?_) (fun c3 => ?_)
      · have c3 : (pB (md_in d 0 9999)) = false := bI_0.mp c3
        refine lv_iconst (v := (-1 : Int32)) hx hb dX8_judge_62 (by decide) ?_
        exact mp_iret hx hb hr hlocks (Nat.le_of_ble_eq_true rfl) (Nat.le_of_ble_eq_true rfl) hM hS dX8_judge_63 (⟨by rw [md_judge, pB_f]; rfl; intro q; exact pB_not.mp c3 q.2.2.1, rfl⟩)
      · have c3 : (pB (md_in d 0 9999)) = true := bI_1.mp c3
        refine lv_iload hx hb dX8_judge_32 (lv_at hl 9 rfl) ?_
        refine mp_calli (va_runS (As := [.int k]) (rest := []) ⟨hx, hb, hml, hown, hts⟩ (c_X8_isDay l X G A (md_M G B h ad n f) k) (va_cwS 1 hts gX8_judge_X8_isDay rfl rfl rfl (by decide +kernel) ⟨Nat.le_of_ble_eq_true rfl, Nat.le_of_ble_eq_true rfl⟩) (mp_preS hC hS hM) rfl rfl hl.1 rfl (lv_room (Nat.le_of_ble_eq_true rfl)) dX8_judge_34 ⟨Nat.le_of_ble_eq_true rfl, Nat.le_of_ble_eq_true rfl⟩) hS (fun H locs hM hS => ?_)
        refine lv_if_eq (tgt := 62) hx hb dX8_judge_37 (by decide) (fun c4 => ?_) (fun c4 => ?_)
        · have c4 : (pB (md_in k 0 9999)) = false := bI_0.mp c4
          refine lv_iconst (v := (-1 : Int32)) hx hb dX8_judge_62 (by decide) ?_
          exact mp_iret hx hb hr hlocks (Nat.le_of_ble_eq_true rfl) (Nat.le_of_ble_eq_true rfl) hM hS dX8_judge_63 (⟨by rw [md_judge, pB_f]; rfl; intro q; exact pB_not.mp c4 q.2.2.2, rfl⟩)
        · have c4 : (pB (md_in k 0 9999)) = true := bI_1.mp c4
          obtain ⟨r, hr0, e1⟩ := md_nat (k := pl) (by omega) (by have z := pB_iff.mp c1; rw [hpl] at z; exact z)
          subst e1
          have g1 := hco r hr0
          have ecl : (nI r).toNatClampNeg = r := nI_clamp (by omega)
          refine lv_aload_n hx hb dX8_judge_40 rfl (lv_at hl 0 rfl) ?_
          refine lv_iload_n hx hb dX8_judge_41 rfl (lv_at hl 1 rfl) ?_
          refine lv_iload_n hx hb dX8_judge_42 rfl (lv_at hl 2 rfl) ?_
          refine lv_iload_n hx hb dX8_judge_43 rfl (lv_at hl 3 rfl) ?_
          refine lv_iload hx hb dX8_judge_44 (lv_at hl 4 rfl) ?_
          refine lv_iload hx hb dX8_judge_46 (lv_at hl 5 rfl) ?_
          refine lv_iload hx hb dX8_judge_48 (lv_at hl 6 rfl) ?_
          refine lv_iload hx hb dX8_judge_50 (lv_at hl 7 rfl) ?_
          refine lv_iload hx hb dX8_judge_52 (lv_at hl 8 rfl) ?_
          refine lv_iload hx hb dX8_judge_54 (lv_at hl 9 rfl) ?_
          refine mp_calli (va_runV (As := [.int (nI r), .int x0, .int y0, .int x1, .int y1, .int ht, .int us, .int d, .int k]) (rest := []) ⟨hx, hb, hml, hown, hts⟩ (c_X8_broken l X G A B h ad n f pn hpn hpn9 zmf hzmf ap hap hap9 r (co r) (by omega) (by omega) (by omega) g1.1 x0 y0 x1 y1 ht us d k (pB_iff.mp c3) (pB_iff.mp c4)) (cwV 9 hts gX8_judge_X8_broken rfl rfl rfl (by decide +kernel) ⟨Nat.le_of_ble_eq_true rfl, Nat.le_of_ble_eq_true rfl⟩) (mp_preV hC hS hM (md_recv hC hM)) rfl rfl hl.1 rfl (lv_room (Nat.le_of_ble_eq_true rfl)) dX8_judge_56 ⟨Nat.le_of_ble_eq_true rfl, Nat.le_of_ble_eq_true rfl⟩) hS (fun H locs hM hS => ?_)
          refine lv_goto (tgt := 63) hx hb dX8_judge_59 (by decide) ?_
          exact mp_iret hx hb hr hlocks (Nat.le_of_ble_eq_true rfl) (Nat.le_of_ble_eq_true rfl) hM hS dX8_judge_63 (⟨by rw [md_judge, pB_t ⟨by rw [← hpl]; exact pB_iff.mp c1, pB_iff.mp c2, pB_iff.mp c3, pB_iff.mp c4⟩, if_pos rfl, ecl], rfl⟩)
