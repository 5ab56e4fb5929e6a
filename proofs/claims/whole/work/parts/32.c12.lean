/-! ===== designs against rules; applications that change ===== -/
def cs_des (pl : Nat) (q x0 y0 x1 y1 ht us : Int32) : Prop := isAt q pl ∧ md_in x0 0 63 ∧ md_in x1 0 63 ∧ x0 < x1 ∧ md_in y0 0 63 ∧ md_in y1 0 63 ∧ y0 < y1 ∧ md_in ht 1 40 ∧ md_in us 0 7
def ds_area (D : ds_D) : Int32 := (D.2.2.2.1 - D.2.1) * (D.2.2.2.2.1 - D.2.2.1)
def ds_shade (D1 D2 : ds_D) (t : Int32) : Prop := 0 < D1.2.2.2.2.2.1 * t / 10 ∧ D1.2.1 < D2.2.2.2.1 ∧ D2.2.1 < D1.2.2.2.1 ∧ D1.2.2.2.2.1 < D2.2.2.2.2.1 ∧ D2.2.2.1 < D1.2.2.2.2.1 + D1.2.2.2.2.2.1 * t / 10
def cs_in (R : rg_R) (D : ds_D) : Prop := rg_ins R D.2.1 D.2.2.1 ∧ rg_ins R D.2.2.2.1 D.2.2.1 ∧ rg_ins R D.2.2.2.1 D.2.2.2.2.1 ∧ rg_ins R D.2.1 D.2.2.2.2.1
def cs_tig (R : rg_R) (D : ds_D) (t : Int32) : Prop := cdN R D.2.1 D.2.2.1 t ∨ cdN R D.2.2.2.1 D.2.2.1 t ∨ cdN R D.2.2.2.1 D.2.2.2.2.1 t ∨ cdN R D.2.1 D.2.2.2.2.1 t
noncomputable def cs_cov (av : Nat → Nat → Int32) (dv : Nat → ds_D) (q d k base : Int32) : Nat → Int32
  | 0 => base
  | i + 1 => if pB ((dv i).1 = q ∧ aS (av i) d k) then cs_cov av dv q d k base i + ds_area (dv i) else cs_cov av dv q d k base i
theorem cov_y {av : Nat → Nat → Int32} {dv : Nat → ds_D} {q d k base : Int32} {i : Nat} (h : (dv i).1 = q ∧ aS (av i) d k) : cs_cov av dv q d k base (i + 1) = cs_cov av dv q d k base i + ds_area (dv i) := by rw [cs_cov, pB_t h]; rfl
theorem cov_n {av : Nat → Nat → Int32} {dv : Nat → ds_D} {q d k base : Int32} {i : Nat} (h : ¬ ((dv i).1 = q ∧ aS (av i) d k)) : cs_cov av dv q d k base (i + 1) = cs_cov av dv q d k base i := by rw [cs_cov, pB_f h]; rfl
def cs_stP (av : Nat → Nat → Int32) (dv : Nat → ds_D) (D : ds_D) (d k : Int32) (i : Nat) : Prop := aS (av i) d k ∧ ds_meet D (dv i)
def cs_shP (av : Nat → Nat → Int32) (dv : Nat → ds_D) (D : ds_D) (t d k : Int32) (i : Nat) : Prop := (dv i).1 ≠ D.1 ∧ aS (av i) d k ∧ ds_shade D (dv i) t
noncomputable def cs_s8 (ap : Nat) (av : Nat → Nat → Int32) (dv : Nat → ds_D) (D : ds_D) (v : Nat → Int32) (d k : Int32) : Int32 := if pB (v 5 ≠ -1 ∧ ∃ i, i < ap ∧ cs_shP av dv D (v 5) d k i) then 8 else 0
noncomputable def cs_s7 (ap : Nat) (av : Nat → Nat → Int32) (dv : Nat → ds_D) (D : ds_D) (v : Nat → Int32) (d k : Int32) : Int32 := if pB (∃ i, i < ap ∧ cs_stP av dv D d k i) then 7 else cs_s8 ap av dv D v d k
noncomputable def cs_s6 (ap : Nat) (av : Nat → Nat → Int32) (dv : Nat → ds_D) (R : rg_R) (D : ds_D) (v : Nat → Int32) (d k : Int32) : Int32 := if pB (v 4 ≠ -1 ∧ cs_tig R D (v 4)) then 6 else cs_s7 ap av dv D v d k
noncomputable def cs_s5 (ap : Nat) (av : Nat → Nat → Int32) (dv : Nat → ds_D) (R : rg_R) (D : ds_D) (v : Nat → Int32) (d k : Int32) : Int32 := if pB (v 3 ≠ -1 ∧ v 3 * rg_sum (rg_ar2 R) R.2.2 < 200 * cs_cov av dv D.1 d k (ds_area D) ap) then 5 else cs_s6 ap av dv R D v d k
noncomputable def cs_s4 (ap : Nat) (av : Nat → Nat → Int32) (dv : Nat → ds_D) (R : rg_R) (D : ds_D) (v : Nat → Int32) (d k : Int32) : Int32 := if pB (v 2 ≠ -1 ∧ v 2 < D.2.2.2.2.2.1) then 4 else cs_s5 ap av dv R D v d k
noncomputable def cs_s3 (ap : Nat) (av : Nat → Nat → Int32) (dv : Nat → ds_D) (R : rg_R) (D : ds_D) (v : Nat → Int32) (d k : Int32) : Int32 := if pB (¬ v 1 &&& btO D.2.2.2.2.2.2 = 0) then cs_s4 ap av dv R D v d k else 3
noncomputable def cs_rule (pn : Nat) (pf pk : Nat → Int32) (zc : Nat → Nat) (zz : Nat → Nat → zr) (ap : Nat) (av : Nat → Nat → Int32) (dv : Nat → ds_D) (R : rg_R) (D : ds_D) (d k : Int32) : Int32 := if pB (cs_in R D) then (match cs_zo pn pf pk zc zz D.1 d k with
    | none => 2
    | some x => cs_s3 ap av dv R D (zrv (zz x.1 x.2)) d k) else 1
noncomputable def cs_judge (pl : Nat) (Rg : Nat → rg_R) (pn : Nat) (pf pk : Nat → Int32) (zc : Nat → Nat) (zz : Nat → Nat → zr) (ap : Nat) (av : Nat → Nat → Int32) (dv : Nat → ds_D) (q x0 y0 x1 y1 ht us d k : Int32) : Int32 := if pB (cs_des pl q x0 y0 x1 y1 ht us ∧ md_in d 0 9999 ∧ md_in k 0 9999) then cs_rule pn pf pk zc zz ap av dv (Rg q.toNatClampNeg) (q, x0, y0, x1, y1, ht, us) d k else -1
noncomputable def cs_bldV (v : Nat → Int32) (td : Int32) : Nat → Int32 := if aH v td = 1 then upd (upd v 2 3) 7 td else if aH v td = 3 then upd (upd v 2 4) 8 td else v
noncomputable def cs_bldR (v : Nat → Int32) (td : Int32) : Int32 := if aH v td = 1 then 3 else if aH v td = 3 then 4 else -1
def cs_rzP (v : Nat → Int32) (w : Int32) : Prop := v 2 = 4 ∧ v 8 ≤ w ∧ v 10 = -1
noncomputable def cs_rzV (v : Nat → Int32) (w td : Int32) : Nat → Int32 := if pB (cs_rzP v w) then upd (upd v 10 w) 11 td else v
noncomputable def cs_decR (rule w : Int32) : Int32 := if pB (rule = 0 ∧ 6 ≤ w) then 9 else rule
noncomputable def cs_decV (v : Nat → Int32) (rule td : Int32) : Nat → Int32 := if rule = 0 then upd (upd v 2 1) 6 td else upd (upd (upd v 2 2) 5 rule) 6 td
noncomputable def cs_aplV (v : Nat → Int32) (rule td : Int32) : Nat → Int32 := if rule = 0 then upd (upd (upd v 9 1) 2 1) 6 td else upd v 9 1
noncomputable def cs_objW (R O : rg_R) : Int32 := if pB (cdW R O 0 ∨ cdW O R 0) then 2 else 1
noncomputable def cs_objV (v : Nat → Int32) (q w : Int32) : Nat → Int32 := upd (upd v 3 (v 3 ||| btO q)) 4 (v 4 + w)
theorem BN.own {G : mp_G} {X : mp_X} {M : mp_M} {bq : Nat} {l0 : Nat} {l1 : Nat} {l2 : Nat} {l3 : Nat} {tp : Nat} {tz : Nat} {td : Int32} {fl : Int32} {tt : Nat → Int32} {pl : Nat} {ra : Nat → Nat} {Rg : Nat → rg_R} {pn : Nat} {pa : Nat → Nat} {pf : Nat → Int32} {pk : Nat → Int32} {zc : Nat → Nat} {zz : Nat → Nat → zr} {ap : Nat} {aa : Nat → Nat} {dq : Nat → Nat} {av : Nat → Nat → Int32} {dv : Nat → ds_D} {nh : Nat} {ah : Nat → Nat} {vh : Nat → Nat → Int32} (h : BN G X M bq l0 l1 l2 l3 tp tz td fl tt pl ra Rg pn pa pf pk zc zz ap aa dq av dv nh ah vh) {i : Nat} (hi : i < ap) : mp_set M (1, i, 0) (aa i, .inr (1, ap_fs (dq i) (av i))) = M := mp_set_same (h.A hi)
abbrev rmX7_designOn : Room := { frames := 4, cells := 1, slots := 7, locals := 85 }
set_option maxHeartbeats 4000000 in
set_option maxRecDepth 100000 in
theorem c_X7_designOn (l : Launch) (X : mp_X) (G : mp_G) (A : Nat → Prop) (M : mp_M) (bq : Nat) (l0 : Nat) (l1 : Nat) (l2 : Nat) (l3 : Nat) (tp : Nat) (tz : Nat) (td : Int32) (fl : Int32) (tt : Nat → Int32) (pl : Nat) (ra : Nat → Nat) (Rg : Nat → rg_R) (pn : Nat) (pa : Nat → Nat) (pf : Nat → Int32) (pk : Nat → Int32) (zc : Nat → Nat) (zz : Nat → Nat → zr) (ap : Nat) (aa : Nat → Nat) (dq : Nat → Nat) (av : Nat → Nat → Int32) (dv : Nat → ds_D) (nh : Nat) (ah : Nat → Nat) (vh : Nat → Nat → Int32) (hB : BN G X M bq l0 l1 l2 l3 tp tz td fl tt pl ra Rg pn pa pf pk zc zz ap aa dq av dv nh ah vh) (q x0 y0 x1 y1 ht us : Int32) (kn : mp_N) (hk : M kn = none) : mp_Met l X G A yX7_designOn wsX7_designOn rmX7_designOn ([.ref bq, .int q, .int x0, .int y0, .int x1, .int y1, .int ht, .int us] : List Value) M (fun r M1 => (cs_des pl q x0 y0 x1 y1 ht us ∧ ∃ qd : Nat, r = some (.ref qd) ∧ M1 = mp_set M kn (qd, .inr (2, [.int q, .int x0, .int y0, .int x1, .int y1, .int ht, .int us]))) ∨ (¬ cs_des pl q x0 y0 x1 y1 ht us ∧ r = some .null ∧ M1 = M)) 1 7 := by
  refine mp_ofW (cc := cX7_designOn) (maxL := 9) (ret := (some (.object "PlanningBench$Design"))) (by decide) rfl (Nat.le_of_ble_eq_true rfl) ?_
  intro p e s m below meth c ls hx hb hr hts hown hlocks hnm hml hC hM hS hl
  have hl : lv_has ls 9 [(0, .ref bq), (1, .int q), (2, .int x0), (3, .int y0), (4, .int x1), (5, .int y1), (6, .int ht), (7, .int us)] := hl
  have hown : s.vm.findClass RX7 = some m.cls := hown
  have cl_156 := hts (.classLink RX7 156 RX1) (List.mem_of_getElem? (i := 1) rfl)
  have in_X1 := hts (.instantiable RX1 7) (List.mem_of_getElem? (i := 2) rfl)
  have mi_RX1 := hts (.initialized RX1) (List.mem_of_getElem? (i := 3) rfl)
  have hin_wsX10 : ∀ w ∈ wsX10, w ∈ wsX7_designOn := fun _ h => List.mem_cons_of_mem _ (List.mem_append_left _ (List.mem_append_left _ (List.mem_append_right _ h)))
  have mn_X1_init := hts (.instanceMethod yX1_init) (List.mem_of_getElem? (i := 41) rfl)
  have ml_158 := hts (.methodLink RX7 158 yX1_init) (List.mem_of_getElem? (i := 40) rfl)
  have hb9 := hB.b
  refine lv_aload_n hx hb dX7_designOn_0 rfl (lv_at hl 0 rfl) ?_
  refine lv_iload_n hx hb dX7_designOn_1 rfl (lv_at hl 1 rfl) ?_
  by_cases hq : isAt q pl
  · skip
    obtain ⟨i, hi, ei⟩ := id hq
    have ni : q.toNatClampNeg = i := by rw [ei]; exact nI_clamp (by omega)
    refine mp_top (nI i) ei ?_
    refine mp_callr (va_runV (As := [.int (nI i)]) (rest := []) ⟨hx, hb, hml, hown, hts⟩ (c_X7_ringAt l X G A (M) bq l0 l1 l2 l3 tp tz td fl tt pl ra Rg pn pa pf pk zc zz ap aa dq av dv nh ah vh hB i hi) (cwV 1 hts gX7_designOn_X7_ringAt rfl rfl rfl (by decide +kernel) ⟨Nat.le_of_ble_eq_true rfl, Nat.le_of_ble_eq_true rfl⟩) (mp_preV hC hS hM (mp_recv hC.1 hM hB.O (r := (RX7, TX7, 9)) rfl)) rfl rfl hl.1 rfl (lv_room (Nat.le_of_ble_eq_true rfl)) dX7_designOn_2 ⟨Nat.le_of_ble_eq_true rfl, Nat.le_of_ble_eq_true rfl⟩) hS (fun H locs hM hS => ?_)
    obtain ⟨ax_i, ay_i, hR_i, hX_i, hY_i, hs_i⟩ := hB.R (i := i) (by omega)
    refine lv_ifnull hx hb dX7_designOn_5 ?_
    refine lv_iload_n hx hb dX7_designOn_8 rfl (lv_at hl 2 rfl) ?_
    refine mp_calli (va_runS (As := [.int x0]) (rest := []) ⟨hx, hb, hml, hown, hts⟩ (c_X7_isPlace l X G A (M) x0) (va_cwS 1 hts gX7_designOn_X7_isPlace rfl rfl rfl (by decide +kernel) ⟨Nat.le_of_ble_eq_true rfl, Nat.le_of_ble_eq_true rfl⟩) (mp_preS hC hS hM) rfl rfl hl.1 rfl (lv_room (Nat.le_of_ble_eq_true rfl)) dX7_designOn_9 ⟨Nat.le_of_ble_eq_true rfl, Nat.le_of_ble_eq_true rfl⟩) hS (fun H locs hM hS => ?_)
    refine lv_if_eq (tgt := 76) hx hb dX7_designOn_12 (by decide) (fun c1 => ?_) (fun c1 => ?_)
    · have c1 : (pB (md_in x0 0 63)) = false := bI_0.mp c1
      refine lv_iconst (v := (0 : Int32)) hx hb dX7_designOn_76 (by decide) ?_
      refine lv_istore (lv' := [(8, .int (0 : Int32)), (0, .ref bq), (1, .int q), (2, .int x0), (3, .int y0), (4, .int x1), (5, .int y1), (6, .int ht), (7, .int us)]) hx hb dX7_designOn_77 hl (by decide) rfl (fun ls hl => ?_)
      refine lv_iload hx hb dX7_designOn_79 (lv_at hl 0 rfl) ?_
      refine lv_if_eq (tgt := 105) hx hb dX7_designOn_81 (by decide) (fun c_1 => ?_) (fun c_1 => ?_)
      · have c_1 := c_1
        refine lv_null hx hb dX7_designOn_105 ?_
        exact mp_aret hx hb hr hlocks (Nat.le_of_ble_eq_true rfl) (Nat.le_of_ble_eq_true rfl) hM hS dX7_designOn_106 (by first | exact Or.inl ⟨_, rfl⟩ | exact Or.inr ⟨_, rfl⟩) (by first | exact Or.inl rfl | exact Or.inr ⟨_, rfl⟩) (Or.inr ⟨fun z => pB_not.mp c1 z.2.1, rfl, rfl⟩)
      · have c_1 := c_1
        exact absurd c_1 (by decide)
    · have c1 : (pB (md_in x0 0 63)) = true := bI_1.mp c1
      refine lv_iload hx hb dX7_designOn_15 (lv_at hl 4 rfl) ?_
      refine mp_calli (va_runS (As := [.int x1]) (rest := []) ⟨hx, hb, hml, hown, hts⟩ (c_X7_isPlace l X G A (M) x1) (va_cwS 1 hts gX7_designOn_X7_isPlace rfl rfl rfl (by decide +kernel) ⟨Nat.le_of_ble_eq_true rfl, Nat.le_of_ble_eq_true rfl⟩) (mp_preS hC hS hM) rfl rfl hl.1 rfl (lv_room (Nat.le_of_ble_eq_true rfl)) dX7_designOn_17 ⟨Nat.le_of_ble_eq_true rfl, Nat.le_of_ble_eq_true rfl⟩) hS (fun H locs hM hS => ?_)
      refine lv_if_eq (tgt := 76) hx hb dX7_designOn_20 (by decide) (fun c2_ => ?_) (fun c2_ => ?_)
      · have c2_ : (pB (md_in x1 0 63)) = false := bI_0.mp c2_
        refine lv_iconst (v := (0 : Int32)) hx hb dX7_designOn_76 (by decide) ?_
        refine lv_istore (lv' := [(8, .int (0 : Int32)), (0, .ref bq), (1, .int q), (2, .int x0), (3, .int y0), (4, .int x1), (5, .int y1), (6, .int ht), (7, .int us)]) hx hb dX7_designOn_77 hl (by decide) rfl (fun ls hl => ?_)
        refine lv_iload hx hb dX7_designOn_79 (lv_at hl 0 rfl) ?_
        refine lv_if_eq (tgt := 105) hx hb dX7_designOn_81 (by decide) (fun c_2 => ?_) (fun c_2 => ?_)
        · have c_2 := c_2
          refine lv_null hx hb dX7_designOn_105 ?_
          exact mp_aret hx hb hr hlocks (Nat.le_of_ble_eq_true rfl) (Nat.le_of_ble_eq_true rfl) hM hS dX7_designOn_106 (by first | exact Or.inl ⟨_, rfl⟩ | exact Or.inr ⟨_, rfl⟩) (by first | exact Or.inl rfl | exact Or.inr ⟨_, rfl⟩) (Or.inr ⟨fun z => pB_not.mp c2_ z.2.2.1, rfl, rfl⟩)
        · have c_2 := c_2
          exact absurd c_2 (by decide)
      · have c2_ : (pB (md_in x1 0 63)) = true := bI_1.mp c2_
        refine lv_iload_n hx hb dX7_designOn_23 rfl (lv_at hl 2 rfl) ?_
        refine lv_iload hx hb dX7_designOn_24 (lv_at hl 4 rfl) ?_
        refine lv_icmp_ge (tgt := 76) hx hb dX7_designOn_26 (by decide) (fun c3 => ?_) (fun c3 => ?_)
        · have c3 := c3
          refine lv_iconst (v := (0 : Int32)) hx hb dX7_designOn_76 (by decide) ?_
          refine lv_istore (lv' := [(8, .int (0 : Int32)), (0, .ref bq), (1, .int q), (2, .int x0), (3, .int y0), (4, .int x1), (5, .int y1), (6, .int ht), (7, .int us)]) hx hb dX7_designOn_77 hl (by decide) rfl (fun ls hl => ?_)
          refine lv_iload hx hb dX7_designOn_79 (lv_at hl 0 rfl) ?_
          refine lv_if_eq (tgt := 105) hx hb dX7_designOn_81 (by decide) (fun c_3 => ?_) (fun c_3 => ?_)
          · have c_3 := c_3
            refine lv_null hx hb dX7_designOn_105 ?_
            exact mp_aret hx hb hr hlocks (Nat.le_of_ble_eq_true rfl) (Nat.le_of_ble_eq_true rfl) hM hS dX7_designOn_106 (by first | exact Or.inl ⟨_, rfl⟩ | exact Or.inr ⟨_, rfl⟩) (by first | exact Or.inl rfl | exact Or.inr ⟨_, rfl⟩) (Or.inr ⟨fun z => absurd z.2.2.2.1 (i_nlt.mpr c3), rfl, rfl⟩)
          · have c_3 := c_3
            exact absurd c_3 (by decide)
        · have c3 := c3
          refine lv_iload_n hx hb dX7_designOn_29 rfl (lv_at hl 3 rfl) ?_
          refine mp_calli (va_runS (As := [.int y0]) (rest := []) ⟨hx, hb, hml, hown, hts⟩ (c_X7_isPlace l X G A (M) y0) (va_cwS 1 hts gX7_designOn_X7_isPlace rfl rfl rfl (by decide +kernel) ⟨Nat.le_of_ble_eq_true rfl, Nat.le_of_ble_eq_true rfl⟩) (mp_preS hC hS hM) rfl rfl hl.1 rfl (lv_room (Nat.le_of_ble_eq_true rfl)) dX7_designOn_30 ⟨Nat.le_of_ble_eq_true rfl, Nat.le_of_ble_eq_true rfl⟩) hS (fun H locs hM hS => ?_)
          refine lv_if_eq (tgt := 76) hx hb dX7_designOn_33 (by decide) (fun c4 => ?_) (fun c4 => ?_)
          · have c4 : (pB (md_in y0 0 63)) = false := bI_0.mp c4
            refine lv_iconst (v := (0 : Int32)) hx hb dX7_designOn_76 (by decide) ?_
            refine lv_istore (lv' := [(8, .int (0 : Int32)), (0, .ref bq), (1, .int q), (2, .int x0), (3, .int y0), (4, .int x1), (5, .int y1), (6, .int ht), (7, .int us)]) hx hb dX7_designOn_77 hl (by decide) rfl (fun ls hl => ?_)
            refine lv_iload hx hb dX7_designOn_79 (lv_at hl 0 rfl) ?_
            refine lv_if_eq (tgt := 105) hx hb dX7_designOn_81 (by decide) (fun c_4 => ?_) (fun c_4 => ?_)
            · have c_4 := c_4
              refine lv_null hx hb dX7_designOn_105 ?_
              exact mp_aret hx hb hr hlocks (Nat.le_of_ble_eq_true rfl) (Nat.le_of_ble_eq_true rfl) hM hS dX7_designOn_106 (by first | exact Or.inl ⟨_, rfl⟩ | exact Or.inr ⟨_, rfl⟩) (by first | exact Or.inl rfl | exact Or.inr ⟨_, rfl⟩) (Or.inr ⟨fun z => pB_not.mp c4 z.2.2.2.2.1, rfl, rfl⟩)
            · have c_4 := c_4
              exact absurd c_4 (by decide)
          · have c4 : (pB (md_in y0 0 63)) = true := bI_1.mp c4
            refine lv_iload hx hb dX7_designOn_36 (lv_at hl 5 rfl) ?_
            refine mp_calli (va_runS (As := [.int y1]) (rest := []) ⟨hx, hb, hml, hown, hts⟩ (c_X7_isPlace l X G A (M) y1) (va_cwS 1 hts gX7_designOn_X7_isPlace rfl rfl rfl (by decide +kernel) ⟨Nat.le_of_ble_eq_true rfl, Nat.le_of_ble_eq_true rfl⟩) (mp_preS hC hS hM) rfl rfl hl.1 rfl (lv_room (Nat.le_of_ble_eq_true rfl)) dX7_designOn_38 ⟨Nat.le_of_ble_eq_true rfl, Nat.le_of_ble_eq_true rfl⟩) hS (fun H locs hM hS => ?_)
            refine lv_if_eq (tgt := 76) hx hb dX7_designOn_41 (by decide) (fun c5 => ?_) (fun c5 => ?_)
            · have c5 : (pB (md_in y1 0 63)) = false := bI_0.mp c5
              refine lv_iconst (v := (0 : Int32)) hx hb dX7_designOn_76 (by decide) ?_
              refine lv_istore (lv' := [(8, .int (0 : Int32)), (0, .ref bq), (1, .int q), (2, .int x0), (3, .int y0), (4, .int x1), (5, .int y1), (6, .int ht), (7, .int us)]) hx hb dX7_designOn_77 hl (by decide) rfl (fun ls hl => ?_)
              refine lv_iload hx hb dX7_designOn_79 (lv_at hl 0 rfl) ?_
              refine lv_if_eq (tgt := 105) hx hb dX7_designOn_81 (by decide) (fun c_5 => ?_) (fun c_5 => ?_)
              · have c_5 := c_5
                refine lv_null hx hb dX7_designOn_105 ?_
                exact mp_aret hx hb hr hlocks (Nat.le_of_ble_eq_true rfl) (Nat.le_of_ble_eq_true rfl) hM hS dX7_designOn_106 (by first | exact Or.inl ⟨_, rfl⟩ | exact Or.inr ⟨_, rfl⟩) (by first | exact Or.inl rfl | exact Or.inr ⟨_, rfl⟩) (Or.inr ⟨fun z => pB_not.mp c5 z.2.2.2.2.2.1, rfl, rfl⟩)
              · have c_5 := c_5
                exact absurd c_5 (by decide)
            · have c5 : (pB (md_in y1 0 63)) = true := bI_1.mp c5
              refine lv_iload_n hx hb dX7_designOn_44 rfl (lv_at hl 3 rfl) ?_
              refine lv_iload hx hb dX7_designOn_45 (lv_at hl 5 rfl) ?_
              refine lv_icmp_ge (tgt := 76) hx hb dX7_designOn_47 (by decide) (fun c6 => ?_) (fun c6 => ?_)
              · have c6 := c6
                refine lv_iconst (v := (0 : Int32)) hx hb dX7_designOn_76 (by decide) ?_
                refine lv_istore (lv' := [(8, .int (0 : Int32)), (0, .ref bq), (1, .int q), (2, .int x0), (3, .int y0), (4, .int x1), (5, .int y1), (6, .int ht), (7, .int us)]) hx hb dX7_designOn_77 hl (by decide) rfl (fun ls hl => ?_)
                refine lv_iload hx hb dX7_designOn_79 (lv_at hl 0 rfl) ?_
                refine lv_if_eq (tgt := 105) hx hb dX7_designOn_81 (by decide) (fun c_6 => ?_) (fun c_6 => ?_)
                · have c_6 := c_6
                  refine lv_null hx hb dX7_designOn_105 ?_
                  exact mp_aret hx hb hr hlocks (Nat.le_of_ble_eq_true rfl) (Nat.le_of_ble_eq_true rfl) hM hS dX7_designOn_106 (by first | exact Or.inl ⟨_, rfl⟩ | exact Or.inr ⟨_, rfl⟩) (by first | exact Or.inl rfl | exact Or.inr ⟨_, rfl⟩) (Or.inr ⟨fun z => absurd z.2.2.2.2.2.2.1 (i_nlt.mpr c6), rfl, rfl⟩)
                · have c_6 := c_6
                  exact absurd c_6 (by decide)
              · have c6 := c6
                refine lv_iload hx hb dX7_designOn_50 (lv_at hl 6 rfl) ?_
                refine lv_iconst (v := (1 : Int32)) hx hb dX7_designOn_52 (by decide) ?_
                refine lv_bipush (v := (40 : Int32)) hx hb dX7_designOn_53 (by decide) ?_
                refine mp_calli (va_runS (As := [.int ht, .int (1 : Int32), .int (40 : Int32)]) (rest := []) ⟨hx, hb, hml, hown, hts⟩ (c_X7_isWithin l X G A (M) ht (1 : Int32) (40 : Int32)) (va_cwS 3 hts gX7_designOn_X7_isWithin rfl rfl rfl (by decide +kernel) ⟨Nat.le_of_ble_eq_true rfl, Nat.le_of_ble_eq_true rfl⟩) (mp_preS hC hS hM) rfl rfl hl.1 rfl (lv_room (Nat.le_of_ble_eq_true rfl)) dX7_designOn_55 ⟨Nat.le_of_ble_eq_true rfl, Nat.le_of_ble_eq_true rfl⟩) hS (fun H locs hM hS => ?_)
                refine lv_if_eq (tgt := 76) hx hb dX7_designOn_58 (by decide) (fun c7 => ?_) (fun c7 => ?_)
                · have c7 : (pB (md_in ht (1 : Int32) (40 : Int32))) = false := bI_0.mp c7
                  refine lv_iconst (v := (0 : Int32)) hx hb dX7_designOn_76 (by decide) ?_
                  refine lv_istore (lv' := [(8, .int (0 : Int32)), (0, .ref bq), (1, .int q), (2, .int x0), (3, .int y0), (4, .int x1), (5, .int y1), (6, .int ht), (7, .int us)]) hx hb dX7_designOn_77 hl (by decide) rfl (fun ls hl => ?_)
                  refine lv_iload hx hb dX7_designOn_79 (lv_at hl 0 rfl) ?_
                  refine lv_if_eq (tgt := 105) hx hb dX7_designOn_81 (by decide) (fun c_7 => ?_) (fun c_7 => ?_)
                  · have c_7 := c_7
                    refine lv_null hx hb dX7_designOn_105 ?_
                    exact mp_aret hx hb hr hlocks (Nat.le_of_ble_eq_true rfl) (Nat.le_of_ble_eq_true rfl) hM hS dX7_designOn_106 (by first | exact Or.inl ⟨_, rfl⟩ | exact Or.inr ⟨_, rfl⟩) (by first | exact Or.inl rfl | exact Or.inr ⟨_, rfl⟩) (Or.inr ⟨fun z => pB_not.mp c7 z.2.2.2.2.2.2.2.1, rfl, rfl⟩)
                  · have c_7 := c_7
                    exact absurd c_7 (by decide)
                · have c7 : (pB (md_in ht (1 : Int32) (40 : Int32))) = true := bI_1.mp c7
                  refine lv_iload hx hb dX7_designOn_61 (lv_at hl 7 rfl) ?_
                  refine lv_iconst (v := (0 : Int32)) hx hb dX7_designOn_63 (by decide) ?_
                  refine lv_bipush (v := (7 : Int32)) hx hb dX7_designOn_64 (by decide) ?_
                  refine mp_calli (va_runS (As := [.int us, .int (0 : Int32), .int (7 : Int32)]) (rest := []) ⟨hx, hb, hml, hown, hts⟩ (c_X7_isWithin l X G A (M) us (0 : Int32) (7 : Int32)) (va_cwS 3 hts gX7_designOn_X7_isWithin rfl rfl rfl (by decide +kernel) ⟨Nat.le_of_ble_eq_true rfl, Nat.le_of_ble_eq_true rfl⟩) (mp_preS hC hS hM) rfl rfl hl.1 rfl (lv_room (Nat.le_of_ble_eq_true rfl)) dX7_designOn_66 ⟨Nat.le_of_ble_eq_true rfl, Nat.le_of_ble_eq_true rfl⟩) hS (fun H locs hM hS => ?_)
                  refine lv_if_eq (tgt := 76) hx hb dX7_designOn_69 (by decide) (fun c8 => ?_) (fun c8 => ?_)
                  · have c8 : (pB (md_in us (0 : Int32) (7 : Int32))) = false := bI_0.mp c8
                    refine lv_iconst (v := (0 : Int32)) hx hb dX7_designOn_76 (by decide) ?_
                    refine lv_istore (lv' := [(8, .int (0 : Int32)), (0, .ref bq), (1, .int q), (2, .int x0), (3, .int y0), (4, .int x1), (5, .int y1), (6, .int ht), (7, .int us)]) hx hb dX7_designOn_77 hl (by decide) rfl (fun ls hl => ?_)
                    refine lv_iload hx hb dX7_designOn_79 (lv_at hl 0 rfl) ?_
                    refine lv_if_eq (tgt := 105) hx hb dX7_designOn_81 (by decide) (fun c_8 => ?_) (fun c_8 => ?_)
                    · have c_8 := c_8
                      refine lv_null hx hb dX7_designOn_105 ?_
                      exact mp_aret hx hb hr hlocks (Nat.le_of_ble_eq_true rfl) (Nat.le_of_ble_eq_true rfl) hM hS dX7_designOn_106 (by first | exact Or.inl ⟨_, rfl⟩ | exact Or.inr ⟨_, rfl⟩) (by first | exact Or.inl rfl | exact Or.inr ⟨_, rfl⟩) (Or.inr ⟨fun z => pB_not.mp c8 z.2.2.2.2.2.2.2.2, rfl, rfl⟩)
                    · have c_8 := c_8
                      exact absurd c_8 (by decide)
                  · have c8 : (pB (md_in us (0 : Int32) (7 : Int32))) = true := bI_1.mp c8
                    refine lv_iconst (v := (1 : Int32)) hx hb dX7_designOn_72 (by decide) ?_
                    refine lv_goto (tgt := 77) hx hb dX7_designOn_73 (by decide) ?_
                    refine lv_istore (lv' := [(8, .int (1 : Int32)), (0, .ref bq), (1, .int q), (2, .int x0), (3, .int y0), (4, .int x1), (5, .int y1), (6, .int ht), (7, .int us)]) hx hb dX7_designOn_77 hl (by decide) rfl (fun ls hl => ?_)
                    refine lv_iload hx hb dX7_designOn_79 (lv_at hl 0 rfl) ?_
                    refine lv_if_eq (tgt := 105) hx hb dX7_designOn_81 (by decide) (fun c_9 => ?_) (fun c_9 => ?_)
                    · have c_9 := c_9
                      exact absurd c_9 (by decide)
                    · have c_9 := c_9
                      refine mp_new (kn := kn) (C := RX1) (T := TX1) (N := 7) (ci := 2) (fs := [.int (0 : Int32), .int (0 : Int32), .int (0 : Int32), .int (0 : Int32), .int (0 : Int32), .int (0 : Int32), .int (0 : Int32)]) hx hb hts hin_wsX10 tyX1 tyX1_ok hown cl_156 in_X1 mi_RX1 hC.1 hM hS hC.2.2.2 rfl (fun j hj => by rcases (show j = 0 ∨ j = 1 ∨ j = 2 ∨ j = 3 ∨ j = 4 ∨ j = 5 ∨ j = 6 by omega) with rfl | rfl | rfl | rfl | rfl | rfl | rfl <;> rfl) (Nat.le_of_ble_eq_true rfl) (Nat.le_of_ble_eq_true rfl) dX7_designOn_84 hk (fun qd H hM hS => ?_)
                      have hM : mp_P G.1 A (mp_set M kn (qd, .inr (2, [.int (0 : Int32), .int (0 : Int32), .int (0 : Int32), .int (0 : Int32), .int (0 : Int32), .int (0 : Int32), .int (0 : Int32)]))) H := hM
                      refine lv_dup hx hb dX7_designOn_87 rfl ?_
                      refine lv_iload_n hx hb dX7_designOn_88 rfl (lv_at hl 2 rfl) ?_
                      refine lv_iload_n hx hb dX7_designOn_89 rfl (lv_at hl 3 rfl) ?_
                      refine lv_iload_n hx hb dX7_designOn_90 rfl (lv_at hl 4 rfl) ?_
                      refine lv_iload hx hb dX7_designOn_91 (lv_at hl 5 rfl) ?_
                      refine lv_iload hx hb dX7_designOn_93 (lv_at hl 6 rfl) ?_
                      refine lv_iload hx hb dX7_designOn_95 (lv_at hl 7 rfl) ?_
                      refine lv_iload hx hb dX7_designOn_97 (lv_at hl 8 rfl) ?_
                      refine mp_callv (va_runI (As := [.int q, .int x0, .int y0, .int x1, .int y1, .int ht, .int us]) (rest := [.ref qd]) ⟨hx, hb, hml, hown, hts⟩ (c_X1_init l X G A (mp_set M kn (qd, .inr (2, [.int (0 : Int32), .int (0 : Int32), .int (0 : Int32), .int (0 : Int32), .int (0 : Int32), .int (0 : Int32), .int (0 : Int32)]))) qd kn q x0 y0 x1 y1 ht us (mp_set_s _ _ _)) (cwI 7 hts gX7_designOn_X1_init rfl rfl rfl mi_RX1 ml_158 mn_X1_init rfl (by decide +kernel) ⟨Nat.le_of_ble_eq_true rfl, Nat.le_of_ble_eq_true rfl⟩) (mp_preS hC hS hM) rfl rfl hl.1 rfl (lv_room (Nat.le_of_ble_eq_true rfl)) dX7_designOn_99 ⟨Nat.le_of_ble_eq_true rfl, Nat.le_of_ble_eq_true rfl⟩) hS (fun H locs hM hS => ?_)
                      rw [mp_set_set] at hM
                      have hM : mp_P G.1 A (mp_set M kn (qd, .inr (2, [.int q, .int x0, .int y0, .int x1, .int y1, .int ht, .int us]))) H := hM
                      refine lv_goto (tgt := 106) hx hb dX7_designOn_102 (by decide) ?_
                      exact mp_aret hx hb hr hlocks (Nat.le_of_ble_eq_true rfl) (Nat.le_of_ble_eq_true rfl) hM hS dX7_designOn_106 (by first | exact Or.inl ⟨_, rfl⟩ | exact Or.inr ⟨_, rfl⟩) (by first | exact Or.inl rfl | exact Or.inr ⟨_, rfl⟩) (Or.inl ⟨⟨hq, pB_iff.mp c1, pB_iff.mp c2_, i_nle.mp c3, pB_iff.mp c4, pB_iff.mp c5, i_nle.mp c6, pB_iff.mp c7, pB_iff.mp c8⟩, qd, rfl, rfl⟩)
  · skip
    refine mp_calln (va_runV (As := [.int q]) (rest := []) ⟨hx, hb, hml, hown, hts⟩ (c_X7_ringAt_n l X G A (M) bq l0 l1 l2 l3 tp tz td fl tt pl ra Rg pn pa pf pk zc zz ap aa dq av dv nh ah vh hB q hq) (cwV 1 hts gX7_designOn_X7_ringAt rfl rfl rfl (by decide +kernel) ⟨Nat.le_of_ble_eq_true rfl, Nat.le_of_ble_eq_true rfl⟩) (mp_preV hC hS hM (mp_recv hC.1 hM hB.O (r := (RX7, TX7, 9)) rfl)) rfl rfl hl.1 rfl (lv_room (Nat.le_of_ble_eq_true rfl)) dX7_designOn_2 ⟨Nat.le_of_ble_eq_true rfl, Nat.le_of_ble_eq_true rfl⟩) hS (fun H locs hM hS => ?_)
    refine lv_ifnullN (tgt := 76) hx hb dX7_designOn_5 (by decide) ?_
    refine lv_iconst (v := (0 : Int32)) hx hb dX7_designOn_76 (by decide) ?_
    refine lv_istore (lv' := [(8, .int (0 : Int32)), (0, .ref bq), (1, .int q), (2, .int x0), (3, .int y0), (4, .int x1), (5, .int y1), (6, .int ht), (7, .int us)]) hx hb dX7_designOn_77 hl (by decide) rfl (fun ls hl => ?_)
    refine lv_iload hx hb dX7_designOn_79 (lv_at hl 0 rfl) ?_
    refine lv_if_eq (tgt := 105) hx hb dX7_designOn_81 (by decide) (fun c_10 => ?_) (fun c_10 => ?_)
    · have c_10 := c_10
      refine lv_null hx hb dX7_designOn_105 ?_
      exact mp_aret hx hb hr hlocks (Nat.le_of_ble_eq_true rfl) (Nat.le_of_ble_eq_true rfl) hM hS dX7_designOn_106 (by first | exact Or.inl ⟨_, rfl⟩ | exact Or.inr ⟨_, rfl⟩) (by first | exact Or.inl rfl | exact Or.inr ⟨_, rfl⟩) (Or.inr ⟨fun z => hq z.1, rfl, rfl⟩)
    · have c_10 := c_10
      exact absurd c_10 (by decide)
abbrev rmX7_coversTooMuch : Room := { frames := 3, cells := 0, slots := 0, locals := 64 }
set_option maxHeartbeats 4000000 in
set_option maxRecDepth 100000 in
theorem c_X7_coversTooMuch (l : Launch) (X : mp_X) (G : mp_G) (A : Nat → Prop) (M : mp_M) (bq : Nat) (l0 : Nat) (l1 : Nat) (l2 : Nat) (l3 : Nat) (tp : Nat) (tz : Nat) (td : Int32) (fl : Int32) (tt : Nat → Int32) (pl : Nat) (ra : Nat → Nat) (Rg : Nat → rg_R) (pn : Nat) (pa : Nat → Nat) (pf : Nat → Int32) (pk : Nat → Int32) (zc : Nat → Nat) (zz : Nat → Nat → zr) (ap : Nat) (aa : Nat → Nat) (dq : Nat → Nat) (av : Nat → Nat → Int32) (dv : Nat → ds_D) (nh : Nat) (ah : Nat → Nat) (vh : Nat → Nat → Int32) (hB : BN G X M bq l0 l1 l2 l3 tp tz td fl tt pl ra Rg pn pa pf pk zc zz ap aa dq av dv nh ah vh) (d1 : Nat) (D1 : ds_D) (g1 : DesAt M d1 D1) (lim d k : Int32) : mp_Met l X G A yX7_coversTooMuch wsX7_coversTooMuch rmX7_coversTooMuch ([.ref bq, .ref d1, .int lim, .int d, .int k] : List Value) M (fun r M1 => r = some (.int (bI (pB (lim < 200 * cs_cov av dv D1.1 d k (ds_area D1) ap)))) ∧ M1 = M) 0 0 := by
  refine mp_ofW (cc := cX7_coversTooMuch) (maxL := 8) (ret := (some .boolean)) (by decide) rfl (Nat.le_of_ble_eq_true rfl) ?_
  intro p e s m below meth c ls hx hb hr hts hown hlocks hnm hml hC hM hS hl
  have hl : lv_has ls 8 [(0, .ref bq), (1, .ref d1), (2, .int lim), (3, .int d), (4, .int k)] := hl
  have hown : s.vm.findClass RX7 = some m.cls := hown
  have hin_wsX70 : ∀ w ∈ wsX70, w ∈ wsX7_coversTooMuch := fun _ h => List.mem_cons_of_mem _ (List.mem_append_left _ (List.mem_append_left _ (List.mem_append_left _ (List.mem_append_right _ h))))
  have fl_19 := hts (.fieldLink RX7 19 "PlanningBench" "applications" "Ljava/util/ArrayList;") (List.mem_of_getElem? (i := 1) rfl)
  have cl_209 := hts (.classLink RX7 209 "PlanningBench$Application") (List.mem_of_getElem? (i := 2) rfl)
  have hin_wsX00 : ∀ w ∈ wsX00, w ∈ wsX7_coversTooMuch := fun _ h => List.mem_cons_of_mem _ (List.mem_append_left _ (List.mem_append_left _ (List.mem_append_right _ h)))
  have nf_211 := hC.2.1 (.fieldLinkNest RX7 211 "PlanningBench$Application" "design" "LPlanningBench$Design;" "PlanningBench") (List.mem_of_getElem? (i := 19) rfl)
  have hin_wsX10 : ∀ w ∈ wsX10, w ∈ wsX7_coversTooMuch := fun _ h => List.mem_cons_of_mem _ (List.mem_append_left _ (List.mem_append_right _ h))
  have nf_161 := hC.2.1 (.fieldLinkNest RX7 161 "PlanningBench$Design" "plot" "I" "PlanningBench") (List.mem_of_getElem? (i := 12) rfl)
  have hb9 := hB.b
  obtain ⟨kd1, hD1⟩ := id g1
  refine lv_aload_n hx hb dX7_coversTooMuch_0 rfl (lv_at hl 1 rfl) ?_
  refine mp_calli (va_runV (As := []) (rest := []) ⟨hx, hb, hml, hown, hts⟩ (c_X1_area l X G A (M) (d1) D1 g1) (cwV 0 hts gX7_coversTooMuch_X1_area rfl rfl rfl (by decide +kernel) ⟨Nat.le_of_ble_eq_true rfl, Nat.le_of_ble_eq_true rfl⟩) (mp_preV hC hS hM (mp_recv hC.1 hM hD1 (r := (RX1, TX1, 7)) rfl)) rfl rfl hl.1 rfl (lv_room (Nat.le_of_ble_eq_true rfl)) dX7_coversTooMuch_1 ⟨Nat.le_of_ble_eq_true rfl, Nat.le_of_ble_eq_true rfl⟩) hS (fun H locs hM hS => ?_)
  refine lv_istore (lv' := [(5, .int (ds_area D1)), (0, .ref bq), (1, .ref d1), (2, .int lim), (3, .int d), (4, .int k)]) hx hb dX7_coversTooMuch_4 hl (by decide) rfl (fun ls hl => ?_)
  refine lv_iconst (v := (0 : Int32)) hx hb dX7_coversTooMuch_6 (by decide) ?_
  refine lv_istore (lv' := [(6, .int (0 : Int32)), (5, .int (ds_area D1)), (0, .ref bq), (1, .ref d1), (2, .int lim), (3, .int d), (4, .int k)]) hx hb dX7_coversTooMuch_7 hl (by decide) rfl (fun ls hl => ?_)
  have LP9 : ∀ (kk : Nat) (i : Nat) (ls : Array Slot) (H : Heap) (locs : List Loc), ap - i < kk → i ≤ ap → mp_P G.1 A M H → va_S A s.heap H locs → lv_has ls 8 [(0, .ref bq), (1, .ref d1), (2, .int lim), (3, .int d), (4, .int k), (5, .int (cs_cov av dv D1.1 d k (ds_area D1) i)), (6, .int (nI i))] → W p l e rmX7_coversTooMuch s m ([.ref bq, .ref d1, .int lim, .int d, .int k] : List Value).toArray below meth c H locs 0 0 (MQ below (mp_Q G.1 A (fun r M1 => r = some (.int (bI (pB (lim < 200 * cs_cov av dv D1.1 d k (ds_area D1) ap)))) ∧ M1 = M)) ([.ref bq, .ref d1, .int lim, .int d, .int k] : List Value).toArray s 0 0 A) (F0 m 9 ls []) := by
    intro kk
    induction kk with
    | zero => intro i ls H locs hk; exact absurd hk (Nat.not_lt_zero _)
    | succ kk ih =>
      intro i ls H locs hk hi hM hS hl
      refine lv_iload hx hb dX7_coversTooMuch_9 (lv_at hl 6 rfl) ?_
      refine lv_aload_n hx hb dX7_coversTooMuch_11 rfl (lv_at hl 0 rfl) ?_
      refine va_get (D := G.1) (C := RX7) (T := TX7) (N := 9) (ci := 8) hx hb hts hin_wsX70 hown hC.1 (hM.one hB.O) 0 rfl rfl 2 (by decide) fl_19 (fun _ z => z) rfl dX7_coversTooMuch_12 ?_
      refine mp_calli (va_runV (As := []) (rest := [.int (nI i)]) ⟨hx, hb, hml, hown, hts⟩ (c_size l X G A (M) hB.L2) (cwV 0 hts gX7_coversTooMuch_Jx4a65c_size_8abf5 rfl rfl rfl (by decide +kernel) ⟨Nat.le_of_ble_eq_true rfl, Nat.le_of_ble_eq_true rfl⟩) (mp_preV hC hS hM (mp_recvL hC.1 hM hB.L2)) rfl rfl hl.1 rfl (lv_room (Nat.le_of_ble_eq_true rfl)) dX7_coversTooMuch_15 ⟨Nat.le_of_ble_eq_true rfl, Nat.le_of_ble_eq_true rfl⟩) hS (fun H locs hM hS => ?_)
      refine lv_icmp_ge (tgt := 80) hx hb dX7_coversTooMuch_18 (by decide) (fun c1 => ?_) (fun c1 => ?_)
      · have c1 := nn_le (a := ap) (b := i) (by omega) (by omega) c1
        have hip : i = ap := by omega
        rw [hip] at hl
        refine lv_sipush (v := (200 : Int32)) hx hb dX7_coversTooMuch_80 (by decide) ?_
        refine lv_iload hx hb dX7_coversTooMuch_83 (lv_at hl 5 rfl) ?_
        refine lv_imul hx hb dX7_coversTooMuch_85 ?_
        refine lv_iload_n hx hb dX7_coversTooMuch_86 rfl (lv_at hl 2 rfl) ?_
        refine lv_icmp_le (tgt := 94) hx hb dX7_coversTooMuch_87 (by decide) (fun c5 => ?_) (fun c5 => ?_)
        · have c5 := c5
          refine lv_iconst (v := (0 : Int32)) hx hb dX7_coversTooMuch_94 (by decide) ?_
          exact mp_zret hx hb hr hlocks (Nat.le_of_ble_eq_true rfl) (Nat.le_of_ble_eq_true rfl) hM hS dX7_coversTooMuch_95 (by first | rfl | exact bI_nar _) (⟨b0 (i_nlt.mpr c5), rfl⟩)
        · have c5 := c5
          refine lv_iconst (v := (1 : Int32)) hx hb dX7_coversTooMuch_90 (by decide) ?_
          refine lv_goto (tgt := 95) hx hb dX7_coversTooMuch_91 (by decide) ?_
          exact mp_zret hx hb hr hlocks (Nat.le_of_ble_eq_true rfl) (Nat.le_of_ble_eq_true rfl) hM hS dX7_coversTooMuch_95 (by first | rfl | exact bI_nar _) (⟨b1 (i_nle.mp c5), rfl⟩)
      · have c1 := nn_nle (a := ap) (b := i) (by omega) (by omega) c1
        refine lv_aload_n hx hb dX7_coversTooMuch_21 rfl (lv_at hl 0 rfl) ?_
        refine va_get (D := G.1) (C := RX7) (T := TX7) (N := 9) (ci := 8) hx hb hts hin_wsX70 hown hC.1 (hM.one hB.O) 0 rfl rfl 2 (by decide) fl_19 (fun _ z => z) rfl dX7_coversTooMuch_22 ?_
        refine lv_iload hx hb dX7_coversTooMuch_25 (lv_at hl 6 rfl) ?_
        refine mp_callr (va_runV (As := [.int (nI i)]) (rest := []) ⟨hx, hb, hml, hown, hts⟩ (c_get l X G A (M) hB.L2 i (by omega)) (cwV 1 hts gX7_coversTooMuch_Jx4a65c_get_915e3 rfl rfl rfl (by decide +kernel) ⟨Nat.le_of_ble_eq_true rfl, Nat.le_of_ble_eq_true rfl⟩) (mp_preV hC hS hM (mp_recvL hC.1 hM hB.L2)) rfl rfl hl.1 rfl (lv_room (Nat.le_of_ble_eq_true rfl)) dX7_coversTooMuch_27 ⟨Nat.le_of_ble_eq_true rfl, Nat.le_of_ble_eq_true rfl⟩) hS (fun H locs hM hS => ?_)
        refine va_castS hx hb hown cl_209 (hC.1.1 1 (RX0, TX0, 12) rfl).2 (mp_recv hC.1 hM (hB.A (i := i) (by omega)) (r := (RX0, TX0, 12)) rfl) dX7_coversTooMuch_30 ?_
        refine lv_astore (lv' := [(7, .ref (aa i)), (0, .ref bq), (1, .ref d1), (2, .int lim), (3, .int d), (4, .int k), (5, .int (cs_cov av dv D1.1 d k (ds_area D1) i)), (6, .int (nI i))]) hx hb dX7_coversTooMuch_33 hl (by decide) rfl (fun ls hl => ?_)
        refine lv_aload hx hb dX7_coversTooMuch_35 (lv_at hl 0 rfl) ?_
        refine va_getN (D := G.1) (C := RX0) (T := TX0) (N := 12) (ci := 1) hx hb hts hin_wsX00 hown hC.1 (hM.one (hB.A (i := i) (by omega))) 0 rfl rfl 0 (by decide) (va_Nw.use rfl nf_211) (fun _ z => z) rfl dX7_coversTooMuch_37 ?_
        refine va_getN (D := G.1) (C := RX1) (T := TX1) (N := 7) (ci := 2) hx hb hts hin_wsX10 hown hC.1 (hM.one (hB.D (i := i) (by omega))) 0 rfl rfl 0 (by decide) (va_Nw.use rfl nf_161) (fun _ z => z) rfl dX7_coversTooMuch_40 ?_
        refine lv_aload_n hx hb dX7_coversTooMuch_43 rfl (lv_at hl 2 rfl) ?_
        refine va_getN (D := G.1) (C := RX1) (T := TX1) (N := 7) (ci := 2) hx hb hts hin_wsX10 hown hC.1 (hM.one hD1) 0 rfl rfl 0 (by decide) (va_Nw.use rfl nf_161) (fun _ z => z) rfl dX7_coversTooMuch_44 ?_
        refine lv_icmp_ne (tgt := 74) hx hb dX7_coversTooMuch_47 (by decide) (fun c3 => ?_) (fun c3 => ?_)
        · have c3 := c3
          refine lv_iinc (v := nI (i + 1)) (lv' := [(6, .int (nI (i + 1))), (7, .ref (aa i)), (0, .ref bq), (1, .ref d1), (2, .int lim), (3, .int d), (4, .int k), (5, .int (cs_cov av dv D1.1 d k (ds_area D1) i))]) hx hb dX7_coversTooMuch_74 hl (k := 7) rfl (nI_1 i) (by decide) rfl (fun ls hl => ?_)
          refine lv_goto (tgt := 9) hx hb dX7_coversTooMuch_77 (by decide) ?_
          exact ih (i + 1) ls _ _ (by omega) (by omega) hM hS (by rw [cov_n (fun z => c3 z.1)]; exact (lv_sub hl [2, 3, 4, 5, 6, 7, 0] rfl))
        · have c3 := c3
          refine lv_aload hx hb dX7_coversTooMuch_50 (lv_at hl 0 rfl) ?_
          refine lv_iload_n hx hb dX7_coversTooMuch_52 rfl (lv_at hl 4 rfl) ?_
          refine lv_iload hx hb dX7_coversTooMuch_53 (lv_at hl 5 rfl) ?_
          refine mp_calli (va_runV (As := [.int d, .int k]) (rest := []) ⟨hx, hb, hml, hown, hts⟩ (c_X0_stoodOn l X G A (M) (aa i) (dq i) (av i) ⟨_, (hB.A (i := i) (by omega))⟩ d k) (cwV 2 hts gX7_coversTooMuch_X0_stoodOn rfl rfl rfl (by decide +kernel) ⟨Nat.le_of_ble_eq_true rfl, Nat.le_of_ble_eq_true rfl⟩) (mp_preV hC hS hM (mp_recv hC.1 hM (hB.A (i := i) (by omega)) (r := (RX0, TX0, 12)) rfl)) rfl rfl hl.1 rfl (lv_room (Nat.le_of_ble_eq_true rfl)) dX7_coversTooMuch_55 ⟨Nat.le_of_ble_eq_true rfl, Nat.le_of_ble_eq_true rfl⟩) hS (fun H locs hM hS => ?_)
          refine lv_if_eq (tgt := 74) hx hb dX7_coversTooMuch_58 (by decide) (fun c4 => ?_) (fun c4 => ?_)
          · have c4 : (pB (aS (av i) d k)) = false := bI_0.mp c4
            refine lv_iinc (v := nI (i + 1)) (lv' := [(6, .int (nI (i + 1))), (7, .ref (aa i)), (0, .ref bq), (1, .ref d1), (2, .int lim), (3, .int d), (4, .int k), (5, .int (cs_cov av dv D1.1 d k (ds_area D1) i))]) hx hb dX7_coversTooMuch_74 hl (k := 7) rfl (nI_1 i) (by decide) rfl (fun ls hl => ?_)
            refine lv_goto (tgt := 9) hx hb dX7_coversTooMuch_77 (by decide) ?_
            exact ih (i + 1) ls _ _ (by omega) (by omega) hM hS (by rw [cov_n (fun z => pB_not.mp c4 z.2)]; exact (lv_sub hl [2, 3, 4, 5, 6, 7, 0] rfl))
          · have c4 : (pB (aS (av i) d k)) = true := bI_1.mp c4
            refine lv_iload hx hb dX7_coversTooMuch_61 (lv_at hl 6 rfl) ?_
            refine lv_aload hx hb dX7_coversTooMuch_63 (lv_at hl 0 rfl) ?_
            refine va_getN (D := G.1) (C := RX0) (T := TX0) (N := 12) (ci := 1) hx hb hts hin_wsX00 hown hC.1 (hM.one (hB.A (i := i) (by omega))) 0 rfl rfl 0 (by decide) (va_Nw.use rfl nf_211) (fun _ z => z) rfl dX7_coversTooMuch_65 ?_
            refine mp_calli (va_runV (As := []) (rest := [.int (cs_cov av dv D1.1 d k (ds_area D1) i)]) ⟨hx, hb, hml, hown, hts⟩ (c_X1_area l X G A (M) (dq i) (dv i) ⟨_, hB.D (i := i) (by omega)⟩) (cwV 0 hts gX7_coversTooMuch_X1_area rfl rfl rfl (by decide +kernel) ⟨Nat.le_of_ble_eq_true rfl, Nat.le_of_ble_eq_true rfl⟩) (mp_preV hC hS hM (mp_recv hC.1 hM (hB.D (i := i) (by omega)) (r := (RX1, TX1, 7)) rfl)) rfl rfl hl.1 rfl (lv_room (Nat.le_of_ble_eq_true rfl)) dX7_coversTooMuch_68 ⟨Nat.le_of_ble_eq_true rfl, Nat.le_of_ble_eq_true rfl⟩) hS (fun H locs hM hS => ?_)
            refine lv_iadd hx hb dX7_coversTooMuch_71 ?_
            refine lv_istore (lv' := [(5, .int ((cs_cov av dv D1.1 d k (ds_area D1) i) + (ds_area (dv i)))), (7, .ref (aa i)), (0, .ref bq), (1, .ref d1), (2, .int lim), (3, .int d), (4, .int k), (6, .int (nI i))]) hx hb dX7_coversTooMuch_72 hl (by decide) rfl (fun ls hl => ?_)
            refine lv_iinc (v := nI (i + 1)) (lv' := [(6, .int (nI (i + 1))), (5, .int ((cs_cov av dv D1.1 d k (ds_area D1) i) + (ds_area (dv i)))), (7, .ref (aa i)), (0, .ref bq), (1, .ref d1), (2, .int lim), (3, .int d), (4, .int k)]) hx hb dX7_coversTooMuch_74 hl (k := 7) rfl (nI_1 i) (by decide) rfl (fun ls hl => ?_)
            refine lv_goto (tgt := 9) hx hb dX7_coversTooMuch_77 (by decide) ?_
            exact ih (i + 1) ls _ _ (by omega) (by omega) hM hS (by rw [cov_y ⟨c3, pB_iff.mp c4⟩]; exact (lv_sub hl [3, 4, 5, 6, 7, 1, 0] rfl))
  exact LP9 _ 0 ls _ _ (Nat.lt_succ_self _) (Nat.zero_le _) hM hS (lv_sub hl [2, 3, 4, 5, 6, 1, 0] rfl)
abbrev rmX7_meetsStanding : Room := { frames := 3, cells := 0, slots := 0, locals := 64 }
set_option maxHeartbeats 4000000 in
set_option maxRecDepth 100000 in
theorem c_X7_meetsStanding (l : Launch) (X : mp_X) (G : mp_G) (A : Nat → Prop) (M : mp_M) (bq : Nat) (l0 : Nat) (l1 : Nat) (l2 : Nat) (l3 : Nat) (tp : Nat) (tz : Nat) (td : Int32) (fl : Int32) (tt : Nat → Int32) (pl : Nat) (ra : Nat → Nat) (Rg : Nat → rg_R) (pn : Nat) (pa : Nat → Nat) (pf : Nat → Int32) (pk : Nat → Int32) (zc : Nat → Nat) (zz : Nat → Nat → zr) (ap : Nat) (aa : Nat → Nat) (dq : Nat → Nat) (av : Nat → Nat → Int32) (dv : Nat → ds_D) (nh : Nat) (ah : Nat → Nat) (vh : Nat → Nat → Int32) (hB : BN G X M bq l0 l1 l2 l3 tp tz td fl tt pl ra Rg pn pa pf pk zc zz ap aa dq av dv nh ah vh) (d1 : Nat) (D1 : ds_D) (g1 : DesAt M d1 D1) (d k : Int32) : mp_Met l X G A yX7_meetsStanding wsX7_meetsStanding rmX7_meetsStanding ([.ref bq, .ref d1, .int d, .int k] : List Value) M (fun r M1 => r = some (.int (bI (pB (∃ i, i < ap ∧ cs_stP av dv D1 d k i)))) ∧ M1 = M) 0 0 := by
  refine mp_ofW (cc := cX7_meetsStanding) (maxL := 6) (ret := (some .boolean)) (by decide) rfl (Nat.le_of_ble_eq_true rfl) ?_
  intro p e s m below meth c ls hx hb hr hts hown hlocks hnm hml hC hM hS hl
  have hl : lv_has ls 6 [(0, .ref bq), (1, .ref d1), (2, .int d), (3, .int k)] := hl
  have hown : s.vm.findClass RX7 = some m.cls := hown
  have hin_wsX70 : ∀ w ∈ wsX70, w ∈ wsX7_meetsStanding := fun _ h => List.mem_cons_of_mem _ (List.mem_append_left _ (List.mem_append_left _ (List.mem_append_left _ (List.mem_append_right _ h))))
  have fl_19 := hts (.fieldLink RX7 19 "PlanningBench" "applications" "Ljava/util/ArrayList;") (List.mem_of_getElem? (i := 1) rfl)
  have cl_209 := hts (.classLink RX7 209 "PlanningBench$Application") (List.mem_of_getElem? (i := 2) rfl)
  have hin_wsX00 : ∀ w ∈ wsX00, w ∈ wsX7_meetsStanding := fun _ h => List.mem_cons_of_mem _ (List.mem_append_left _ (List.mem_append_left _ (List.mem_append_right _ h)))
  have nf_211 := hC.2.1 (.fieldLinkNest RX7 211 "PlanningBench$Application" "design" "LPlanningBench$Design;" "PlanningBench") (List.mem_of_getElem? (i := 19) rfl)
  have hb9 := hB.b
  obtain ⟨kd1, hD1⟩ := id g1
  refine lv_iconst (v := (0 : Int32)) hx hb dX7_meetsStanding_0 (by decide) ?_
  refine lv_istore (lv' := [(4, .int (0 : Int32)), (0, .ref bq), (1, .ref d1), (2, .int d), (3, .int k)]) hx hb dX7_meetsStanding_1 hl (by decide) rfl (fun ls hl => ?_)
  have LP3 : ∀ (kk : Nat) (i : Nat) (ls : Array Slot) (H : Heap) (locs : List Loc), ap - i < kk → i ≤ ap → (∀ u, u < i → ¬ cs_stP av dv D1 d k u) → mp_P G.1 A M H → va_S A s.heap H locs → lv_has ls 6 [(0, .ref bq), (1, .ref d1), (2, .int d), (3, .int k), (4, .int (nI i))] → W p l e rmX7_meetsStanding s m ([.ref bq, .ref d1, .int d, .int k] : List Value).toArray below meth c H locs 0 0 (MQ below (mp_Q G.1 A (fun r M1 => r = some (.int (bI (pB (∃ i, i < ap ∧ cs_stP av dv D1 d k i)))) ∧ M1 = M)) ([.ref bq, .ref d1, .int d, .int k] : List Value).toArray s 0 0 A) (F0 m 3 ls []) := by
    intro kk
    induction kk with
    | zero => intro i ls H locs hk; exact absurd hk (Nat.not_lt_zero _)
    | succ kk ih =>
      intro i ls H locs hk hi hinv hM hS hl
      refine lv_iload hx hb dX7_meetsStanding_3 (lv_at hl 4 rfl) ?_
      refine lv_aload_n hx hb dX7_meetsStanding_5 rfl (lv_at hl 0 rfl) ?_
      refine va_get (D := G.1) (C := RX7) (T := TX7) (N := 9) (ci := 8) hx hb hts hin_wsX70 hown hC.1 (hM.one hB.O) 0 rfl rfl 2 (by decide) fl_19 (fun _ z => z) rfl dX7_meetsStanding_6 ?_
      refine mp_calli (va_runV (As := []) (rest := [.int (nI i)]) ⟨hx, hb, hml, hown, hts⟩ (c_size l X G A (M) hB.L2) (cwV 0 hts gX7_meetsStanding_Jx4a65c_size_8abf5 rfl rfl rfl (by decide +kernel) ⟨Nat.le_of_ble_eq_true rfl, Nat.le_of_ble_eq_true rfl⟩) (mp_preV hC hS hM (mp_recvL hC.1 hM hB.L2)) rfl rfl hl.1 rfl (lv_room (Nat.le_of_ble_eq_true rfl)) dX7_meetsStanding_9 ⟨Nat.le_of_ble_eq_true rfl, Nat.le_of_ble_eq_true rfl⟩) hS (fun H locs hM hS => ?_)
      refine lv_icmp_ge (tgt := 59) hx hb dX7_meetsStanding_12 (by decide) (fun c1 => ?_) (fun c1 => ?_)
      · have c1 := nn_le (a := ap) (b := i) (by omega) (by omega) c1
        refine lv_iconst (v := (0 : Int32)) hx hb dX7_meetsStanding_59 (by decide) ?_
        exact mp_zret hx hb hr hlocks (Nat.le_of_ble_eq_true rfl) (Nat.le_of_ble_eq_true rfl) hM hS dX7_meetsStanding_60 (by first | rfl | exact bI_nar _) (⟨b0 (fun ⟨u, hu, z⟩ => hinv u (by omega) z), rfl⟩)
      · have c1 := nn_nle (a := ap) (b := i) (by omega) (by omega) c1
        refine lv_aload_n hx hb dX7_meetsStanding_15 rfl (lv_at hl 0 rfl) ?_
        refine va_get (D := G.1) (C := RX7) (T := TX7) (N := 9) (ci := 8) hx hb hts hin_wsX70 hown hC.1 (hM.one hB.O) 0 rfl rfl 2 (by decide) fl_19 (fun _ z => z) rfl dX7_meetsStanding_16 ?_
        refine lv_iload hx hb dX7_meetsStanding_19 (lv_at hl 4 rfl) ?_
        refine mp_callr (va_runV (As := [.int (nI i)]) (rest := []) ⟨hx, hb, hml, hown, hts⟩ (c_get l X G A (M) hB.L2 i (by omega)) (cwV 1 hts gX7_meetsStanding_Jx4a65c_get_915e3 rfl rfl rfl (by decide +kernel) ⟨Nat.le_of_ble_eq_true rfl, Nat.le_of_ble_eq_true rfl⟩) (mp_preV hC hS hM (mp_recvL hC.1 hM hB.L2)) rfl rfl hl.1 rfl (lv_room (Nat.le_of_ble_eq_true rfl)) dX7_meetsStanding_21 ⟨Nat.le_of_ble_eq_true rfl, Nat.le_of_ble_eq_true rfl⟩) hS (fun H locs hM hS => ?_)
        refine va_castS hx hb hown cl_209 (hC.1.1 1 (RX0, TX0, 12) rfl).2 (mp_recv hC.1 hM (hB.A (i := i) (by omega)) (r := (RX0, TX0, 12)) rfl) dX7_meetsStanding_24 ?_
        refine lv_astore (lv' := [(5, .ref (aa i)), (0, .ref bq), (1, .ref d1), (2, .int d), (3, .int k), (4, .int (nI i))]) hx hb dX7_meetsStanding_27 hl (by decide) rfl (fun ls hl => ?_)
        refine lv_aload hx hb dX7_meetsStanding_29 (lv_at hl 0 rfl) ?_
        refine lv_iload_n hx hb dX7_meetsStanding_31 rfl (lv_at hl 3 rfl) ?_
        refine lv_iload_n hx hb dX7_meetsStanding_32 rfl (lv_at hl 4 rfl) ?_
        refine mp_calli (va_runV (As := [.int d, .int k]) (rest := []) ⟨hx, hb, hml, hown, hts⟩ (c_X0_stoodOn l X G A (M) (aa i) (dq i) (av i) ⟨_, (hB.A (i := i) (by omega))⟩ d k) (cwV 2 hts gX7_meetsStanding_X0_stoodOn rfl rfl rfl (by decide +kernel) ⟨Nat.le_of_ble_eq_true rfl, Nat.le_of_ble_eq_true rfl⟩) (mp_preV hC hS hM (mp_recv hC.1 hM (hB.A (i := i) (by omega)) (r := (RX0, TX0, 12)) rfl)) rfl rfl hl.1 rfl (lv_room (Nat.le_of_ble_eq_true rfl)) dX7_meetsStanding_33 ⟨Nat.le_of_ble_eq_true rfl, Nat.le_of_ble_eq_true rfl⟩) hS (fun H locs hM hS => ?_)
        refine lv_if_eq (tgt := 53) hx hb dX7_meetsStanding_36 (by decide) (fun c3 => ?_) (fun c3 => ?_)
        · have c3 : (pB (aS (av i) d k)) = false := bI_0.mp c3
          refine lv_iinc (v := nI (i + 1)) (lv' := [(4, .int (nI (i + 1))), (5, .ref (aa i)), (0, .ref bq), (1, .ref d1), (2, .int d), (3, .int k)]) hx hb dX7_meetsStanding_53 hl (k := 5) rfl (nI_1 i) (by decide) rfl (fun ls hl => ?_)
          refine lv_goto (tgt := 3) hx hb dX7_meetsStanding_56 (by decide) ?_
          exact ih (i + 1) ls _ _ (by omega) (by omega) (fun u hu => (Nat.lt_succ_iff_lt_or_eq.mp hu).elim (hinv u) (fun z => by rw [z]; exact (fun z => pB_not.mp c3 z.1))) hM hS (lv_sub hl [2, 3, 4, 5, 0] rfl)
        · have c3 : (pB (aS (av i) d k)) = true := bI_1.mp c3
          refine lv_aload_n hx hb dX7_meetsStanding_39 rfl (lv_at hl 2 rfl) ?_
          refine lv_aload hx hb dX7_meetsStanding_40 (lv_at hl 0 rfl) ?_
          refine va_getN (D := G.1) (C := RX0) (T := TX0) (N := 12) (ci := 1) hx hb hts hin_wsX00 hown hC.1 (hM.one (hB.A (i := i) (by omega))) 0 rfl rfl 0 (by decide) (va_Nw.use rfl nf_211) (fun _ z => z) rfl dX7_meetsStanding_42 ?_
          refine mp_calli (va_runV (As := [.ref (dq i)]) (rest := []) ⟨hx, hb, hml, hown, hts⟩ (c_X1_meets l X G A (M) (d1) D1 g1 (dq i) (dv i) ⟨_, hB.D (i := i) (by omega)⟩) (cwV 1 hts gX7_meetsStanding_X1_meets rfl rfl rfl (by decide +kernel) ⟨Nat.le_of_ble_eq_true rfl, Nat.le_of_ble_eq_true rfl⟩) (mp_preV hC hS hM (mp_recv hC.1 hM hD1 (r := (RX1, TX1, 7)) rfl)) rfl rfl hl.1 rfl (lv_room (Nat.le_of_ble_eq_true rfl)) dX7_meetsStanding_45 ⟨Nat.le_of_ble_eq_true rfl, Nat.le_of_ble_eq_true rfl⟩) hS (fun H locs hM hS => ?_)
          refine lv_if_eq (tgt := 53) hx hb dX7_meetsStanding_48 (by decide) (fun c4 => ?_) (fun c4 => ?_)
          · have c4 : (pB (ds_meet D1 (dv i))) = false := bI_0.mp c4
            refine lv_iinc (v := nI (i + 1)) (lv' := [(4, .int (nI (i + 1))), (5, .ref (aa i)), (0, .ref bq), (1, .ref d1), (2, .int d), (3, .int k)]) hx hb dX7_meetsStanding_53 hl (k := 5) rfl (nI_1 i) (by decide) rfl (fun ls hl => ?_)
            refine lv_goto (tgt := 3) hx hb dX7_meetsStanding_56 (by decide) ?_
            exact ih (i + 1) ls _ _ (by omega) (by omega) (fun u hu => (Nat.lt_succ_iff_lt_or_eq.mp hu).elim (hinv u) (fun z => by rw [z]; exact (fun z => pB_not.mp c4 z.2))) hM hS (lv_sub hl [2, 3, 4, 5, 0] rfl)
          · have c4 : (pB (ds_meet D1 (dv i))) = true := bI_1.mp c4
            refine lv_iconst (v := (1 : Int32)) hx hb dX7_meetsStanding_51 (by decide) ?_
            exact mp_zret hx hb hr hlocks (Nat.le_of_ble_eq_true rfl) (Nat.le_of_ble_eq_true rfl) hM hS dX7_meetsStanding_52 (by first | rfl | exact bI_nar _) (⟨b1 ⟨i, c1, pB_iff.mp c3, pB_iff.mp c4⟩, rfl⟩)
  exact LP3 _ 0 ls _ _ (Nat.lt_succ_self _) (Nat.zero_le _) (fun u hu => absurd hu (Nat.not_lt_zero u)) hM hS (lv_sub hl [1, 2, 3, 4, 0] rfl)
abbrev rmX7_shadesStanding : Room := { frames := 3, cells := 0, slots := 0, locals := 64 }
set_option maxHeartbeats 4000000 in
set_option maxRecDepth 100000 in
theorem c_X7_shadesStanding (l : Launch) (X : mp_X) (G : mp_G) (A : Nat → Prop) (M : mp_M) (bq : Nat) (l0 : Nat) (l1 : Nat) (l2 : Nat) (l3 : Nat) (tp : Nat) (tz : Nat) (td : Int32) (fl : Int32) (tt : Nat → Int32) (pl : Nat) (ra : Nat → Nat) (Rg : Nat → rg_R) (pn : Nat) (pa : Nat → Nat) (pf : Nat → Int32) (pk : Nat → Int32) (zc : Nat → Nat) (zz : Nat → Nat → zr) (ap : Nat) (aa : Nat → Nat) (dq : Nat → Nat) (av : Nat → Nat → Int32) (dv : Nat → ds_D) (nh : Nat) (ah : Nat → Nat) (vh : Nat → Nat → Int32) (hB : BN G X M bq l0 l1 l2 l3 tp tz td fl tt pl ra Rg pn pa pf pk zc zz ap aa dq av dv nh ah vh) (d1 : Nat) (D1 : ds_D) (g1 : DesAt M d1 D1) (t d k : Int32) : mp_Met l X G A yX7_shadesStanding wsX7_shadesStanding rmX7_shadesStanding ([.ref bq, .ref d1, .int t, .int d, .int k] : List Value) M (fun r M1 => r = some (.int (bI (pB (∃ i, i < ap ∧ cs_shP av dv D1 t d k i)))) ∧ M1 = M) 0 0 := by
  refine mp_ofW (cc := cX7_shadesStanding) (maxL := 7) (ret := (some .boolean)) (by decide) rfl (Nat.le_of_ble_eq_true rfl) ?_
  intro p e s m below meth c ls hx hb hr hts hown hlocks hnm hml hC hM hS hl
  have hl : lv_has ls 7 [(0, .ref bq), (1, .ref d1), (2, .int t), (3, .int d), (4, .int k)] := hl
  have hown : s.vm.findClass RX7 = some m.cls := hown
  have hin_wsX70 : ∀ w ∈ wsX70, w ∈ wsX7_shadesStanding := fun _ h => List.mem_cons_of_mem _ (List.mem_append_left _ (List.mem_append_left _ (List.mem_append_left _ (List.mem_append_right _ h))))
  have fl_19 := hts (.fieldLink RX7 19 "PlanningBench" "applications" "Ljava/util/ArrayList;") (List.mem_of_getElem? (i := 1) rfl)
  have cl_209 := hts (.classLink RX7 209 "PlanningBench$Application") (List.mem_of_getElem? (i := 2) rfl)
  have hin_wsX00 : ∀ w ∈ wsX00, w ∈ wsX7_shadesStanding := fun _ h => List.mem_cons_of_mem _ (List.mem_append_left _ (List.mem_append_left _ (List.mem_append_right _ h)))
  have nf_211 := hC.2.1 (.fieldLinkNest RX7 211 "PlanningBench$Application" "design" "LPlanningBench$Design;" "PlanningBench") (List.mem_of_getElem? (i := 19) rfl)
  have hin_wsX10 : ∀ w ∈ wsX10, w ∈ wsX7_shadesStanding := fun _ h => List.mem_cons_of_mem _ (List.mem_append_left _ (List.mem_append_right _ h))
  have nf_161 := hC.2.1 (.fieldLinkNest RX7 161 "PlanningBench$Design" "plot" "I" "PlanningBench") (List.mem_of_getElem? (i := 12) rfl)
  have hb9 := hB.b
  obtain ⟨kd1, hD1⟩ := id g1
  refine lv_iconst (v := (0 : Int32)) hx hb dX7_shadesStanding_0 (by decide) ?_
  refine lv_istore (lv' := [(5, .int (0 : Int32)), (0, .ref bq), (1, .ref d1), (2, .int t), (3, .int d), (4, .int k)]) hx hb dX7_shadesStanding_1 hl (by decide) rfl (fun ls hl => ?_)
  have LP3 : ∀ (kk : Nat) (i : Nat) (ls : Array Slot) (H : Heap) (locs : List Loc), ap - i < kk → i ≤ ap → (∀ u, u < i → ¬ cs_shP av dv D1 t d k u) → mp_P G.1 A M H → va_S A s.heap H locs → lv_has ls 7 [(0, .ref bq), (1, .ref d1), (2, .int t), (3, .int d), (4, .int k), (5, .int (nI i))] → W p l e rmX7_shadesStanding s m ([.ref bq, .ref d1, .int t, .int d, .int k] : List Value).toArray below meth c H locs 0 0 (MQ below (mp_Q G.1 A (fun r M1 => r = some (.int (bI (pB (∃ i, i < ap ∧ cs_shP av dv D1 t d k i)))) ∧ M1 = M)) ([.ref bq, .ref d1, .int t, .int d, .int k] : List Value).toArray s 0 0 A) (F0 m 3 ls []) := by
    intro kk
    induction kk with
    | zero => intro i ls H locs hk; exact absurd hk (Nat.not_lt_zero _)
    | succ kk ih =>
      intro i ls H locs hk hi hinv hM hS hl
      refine lv_iload hx hb dX7_shadesStanding_3 (lv_at hl 5 rfl) ?_
      refine lv_aload_n hx hb dX7_shadesStanding_5 rfl (lv_at hl 0 rfl) ?_
      refine va_get (D := G.1) (C := RX7) (T := TX7) (N := 9) (ci := 8) hx hb hts hin_wsX70 hown hC.1 (hM.one hB.O) 0 rfl rfl 2 (by decide) fl_19 (fun _ z => z) rfl dX7_shadesStanding_6 ?_
      refine mp_calli (va_runV (As := []) (rest := [.int (nI i)]) ⟨hx, hb, hml, hown, hts⟩ (c_size l X G A (M) hB.L2) (cwV 0 hts gX7_shadesStanding_Jx4a65c_size_8abf5 rfl rfl rfl (by decide +kernel) ⟨Nat.le_of_ble_eq_true rfl, Nat.le_of_ble_eq_true rfl⟩) (mp_preV hC hS hM (mp_recvL hC.1 hM hB.L2)) rfl rfl hl.1 rfl (lv_room (Nat.le_of_ble_eq_true rfl)) dX7_shadesStanding_9 ⟨Nat.le_of_ble_eq_true rfl, Nat.le_of_ble_eq_true rfl⟩) hS (fun H locs hM hS => ?_)
      refine lv_icmp_ge (tgt := 76) hx hb dX7_shadesStanding_12 (by decide) (fun c1 => ?_) (fun c1 => ?_)
      · have c1 := nn_le (a := ap) (b := i) (by omega) (by omega) c1
        refine lv_iconst (v := (0 : Int32)) hx hb dX7_shadesStanding_76 (by decide) ?_
        exact mp_zret hx hb hr hlocks (Nat.le_of_ble_eq_true rfl) (Nat.le_of_ble_eq_true rfl) hM hS dX7_shadesStanding_77 (by first | rfl | exact bI_nar _) (⟨b0 (fun ⟨u, hu, z⟩ => hinv u (by omega) z), rfl⟩)
      · have c1 := nn_nle (a := ap) (b := i) (by omega) (by omega) c1
        refine lv_aload_n hx hb dX7_shadesStanding_15 rfl (lv_at hl 0 rfl) ?_
        refine va_get (D := G.1) (C := RX7) (T := TX7) (N := 9) (ci := 8) hx hb hts hin_wsX70 hown hC.1 (hM.one hB.O) 0 rfl rfl 2 (by decide) fl_19 (fun _ z => z) rfl dX7_shadesStanding_16 ?_
        refine lv_iload hx hb dX7_shadesStanding_19 (lv_at hl 5 rfl) ?_
        refine mp_callr (va_runV (As := [.int (nI i)]) (rest := []) ⟨hx, hb, hml, hown, hts⟩ (c_get l X G A (M) hB.L2 i (by omega)) (cwV 1 hts gX7_shadesStanding_Jx4a65c_get_915e3 rfl rfl rfl (by decide +kernel) ⟨Nat.le_of_ble_eq_true rfl, Nat.le_of_ble_eq_true rfl⟩) (mp_preV hC hS hM (mp_recvL hC.1 hM hB.L2)) rfl rfl hl.1 rfl (lv_room (Nat.le_of_ble_eq_true rfl)) dX7_shadesStanding_21 ⟨Nat.le_of_ble_eq_true rfl, Nat.le_of_ble_eq_true rfl⟩) hS (fun H locs hM hS => ?_)
        refine va_castS hx hb hown cl_209 (hC.1.1 1 (RX0, TX0, 12) rfl).2 (mp_recv hC.1 hM (hB.A (i := i) (by omega)) (r := (RX0, TX0, 12)) rfl) dX7_shadesStanding_24 ?_
        refine lv_astore (lv' := [(6, .ref (aa i)), (0, .ref bq), (1, .ref d1), (2, .int t), (3, .int d), (4, .int k), (5, .int (nI i))]) hx hb dX7_shadesStanding_27 hl (by decide) rfl (fun ls hl => ?_)
        refine lv_aload hx hb dX7_shadesStanding_29 (lv_at hl 0 rfl) ?_
        refine va_getN (D := G.1) (C := RX0) (T := TX0) (N := 12) (ci := 1) hx hb hts hin_wsX00 hown hC.1 (hM.one (hB.A (i := i) (by omega))) 0 rfl rfl 0 (by decide) (va_Nw.use rfl nf_211) (fun _ z => z) rfl dX7_shadesStanding_31 ?_
        refine va_getN (D := G.1) (C := RX1) (T := TX1) (N := 7) (ci := 2) hx hb hts hin_wsX10 hown hC.1 (hM.one (hB.D (i := i) (by omega))) 0 rfl rfl 0 (by decide) (va_Nw.use rfl nf_161) (fun _ z => z) rfl dX7_shadesStanding_34 ?_
        refine lv_aload_n hx hb dX7_shadesStanding_37 rfl (lv_at hl 2 rfl) ?_
        refine va_getN (D := G.1) (C := RX1) (T := TX1) (N := 7) (ci := 2) hx hb hts hin_wsX10 hown hC.1 (hM.one hD1) 0 rfl rfl 0 (by decide) (va_Nw.use rfl nf_161) (fun _ z => z) rfl dX7_shadesStanding_38 ?_
        refine lv_icmp_eq (tgt := 70) hx hb dX7_shadesStanding_41 (by decide) (fun c3 => ?_) (fun c3 => ?_)
        · have c3 := c3
          refine lv_iinc (v := nI (i + 1)) (lv' := [(5, .int (nI (i + 1))), (6, .ref (aa i)), (0, .ref bq), (1, .ref d1), (2, .int t), (3, .int d), (4, .int k)]) hx hb dX7_shadesStanding_70 hl (k := 6) rfl (nI_1 i) (by decide) rfl (fun ls hl => ?_)
          refine lv_goto (tgt := 3) hx hb dX7_shadesStanding_73 (by decide) ?_
          exact ih (i + 1) ls _ _ (by omega) (by omega) (fun u hu => (Nat.lt_succ_iff_lt_or_eq.mp hu).elim (hinv u) (fun z => by rw [z]; exact (fun z => z.1 c3))) hM hS (lv_sub hl [2, 3, 4, 5, 6, 0] rfl)
        · have c3 := c3
          refine lv_aload hx hb dX7_shadesStanding_44 (lv_at hl 0 rfl) ?_
          refine lv_iload_n hx hb dX7_shadesStanding_46 rfl (lv_at hl 4 rfl) ?_
          refine lv_iload hx hb dX7_shadesStanding_47 (lv_at hl 5 rfl) ?_
          refine mp_calli (va_runV (As := [.int d, .int k]) (rest := []) ⟨hx, hb, hml, hown, hts⟩ (c_X0_stoodOn l X G A (M) (aa i) (dq i) (av i) ⟨_, (hB.A (i := i) (by omega))⟩ d k) (cwV 2 hts gX7_shadesStanding_X0_stoodOn rfl rfl rfl (by decide +kernel) ⟨Nat.le_of_ble_eq_true rfl, Nat.le_of_ble_eq_true rfl⟩) (mp_preV hC hS hM (mp_recv hC.1 hM (hB.A (i := i) (by omega)) (r := (RX0, TX0, 12)) rfl)) rfl rfl hl.1 rfl (lv_room (Nat.le_of_ble_eq_true rfl)) dX7_shadesStanding_49 ⟨Nat.le_of_ble_eq_true rfl, Nat.le_of_ble_eq_true rfl⟩) hS (fun H locs hM hS => ?_)
          refine lv_if_eq (tgt := 70) hx hb dX7_shadesStanding_52 (by decide) (fun c4 => ?_) (fun c4 => ?_)
          · have c4 : (pB (aS (av i) d k)) = false := bI_0.mp c4
            refine lv_iinc (v := nI (i + 1)) (lv' := [(5, .int (nI (i + 1))), (6, .ref (aa i)), (0, .ref bq), (1, .ref d1), (2, .int t), (3, .int d), (4, .int k)]) hx hb dX7_shadesStanding_70 hl (k := 6) rfl (nI_1 i) (by decide) rfl (fun ls hl => ?_)
            refine lv_goto (tgt := 3) hx hb dX7_shadesStanding_73 (by decide) ?_
            exact ih (i + 1) ls _ _ (by omega) (by omega) (fun u hu => (Nat.lt_succ_iff_lt_or_eq.mp hu).elim (hinv u) (fun z => by rw [z]; exact (fun z => pB_not.mp c4 z.2.1))) hM hS (lv_sub hl [2, 3, 4, 5, 6, 0] rfl)
          · have c4 : (pB (aS (av i) d k)) = true := bI_1.mp c4
            refine lv_aload_n hx hb dX7_shadesStanding_55 rfl (lv_at hl 2 rfl) ?_
            refine lv_aload hx hb dX7_shadesStanding_56 (lv_at hl 0 rfl) ?_
            refine va_getN (D := G.1) (C := RX0) (T := TX0) (N := 12) (ci := 1) hx hb hts hin_wsX00 hown hC.1 (hM.one (hB.A (i := i) (by omega))) 0 rfl rfl 0 (by decide) (va_Nw.use rfl nf_211) (fun _ z => z) rfl dX7_shadesStanding_58 ?_
            refine lv_iload_n hx hb dX7_shadesStanding_61 rfl (lv_at hl 3 rfl) ?_
            refine mp_calli (va_runV (As := [.ref (dq i), .int t]) (rest := []) ⟨hx, hb, hml, hown, hts⟩ (c_X1_shades l X G A (M) (d1) D1 g1 (dq i) (dv i) ⟨_, hB.D (i := i) (by omega)⟩ t) (cwV 2 hts gX7_shadesStanding_X1_shades rfl rfl rfl (by decide +kernel) ⟨Nat.le_of_ble_eq_true rfl, Nat.le_of_ble_eq_true rfl⟩) (mp_preV hC hS hM (mp_recv hC.1 hM hD1 (r := (RX1, TX1, 7)) rfl)) rfl rfl hl.1 rfl (lv_room (Nat.le_of_ble_eq_true rfl)) dX7_shadesStanding_62 ⟨Nat.le_of_ble_eq_true rfl, Nat.le_of_ble_eq_true rfl⟩) hS (fun H locs hM hS => ?_)
            refine lv_if_eq (tgt := 70) hx hb dX7_shadesStanding_65 (by decide) (fun c5 => ?_) (fun c5 => ?_)
            · have c5 : (pB (ds_shade D1 (dv i) t)) = false := bI_0.mp c5
              refine lv_iinc (v := nI (i + 1)) (lv' := [(5, .int (nI (i + 1))), (6, .ref (aa i)), (0, .ref bq), (1, .ref d1), (2, .int t), (3, .int d), (4, .int k)]) hx hb dX7_shadesStanding_70 hl (k := 6) rfl (nI_1 i) (by decide) rfl (fun ls hl => ?_)
              refine lv_goto (tgt := 3) hx hb dX7_shadesStanding_73 (by decide) ?_
              exact ih (i + 1) ls _ _ (by omega) (by omega) (fun u hu => (Nat.lt_succ_iff_lt_or_eq.mp hu).elim (hinv u) (fun z => by rw [z]; exact (fun z => pB_not.mp c5 z.2.2))) hM hS (lv_sub hl [2, 3, 4, 5, 6, 0] rfl)
            · have c5 : (pB (ds_shade D1 (dv i) t)) = true := bI_1.mp c5
              refine lv_iconst (v := (1 : Int32)) hx hb dX7_shadesStanding_68 (by decide) ?_
              exact mp_zret hx hb hr hlocks (Nat.le_of_ble_eq_true rfl) (Nat.le_of_ble_eq_true rfl) hM hS dX7_shadesStanding_69 (by first | rfl | exact bI_nar _) (⟨b1 ⟨i, c1, c3, pB_iff.mp c4, pB_iff.mp c5⟩, rfl⟩)
  exact LP3 _ 0 ls _ _ (Nat.lt_succ_self _) (Nat.zero_le _) (fun u hu => absurd hu (Nat.not_lt_zero u)) hM hS (lv_sub hl [1, 2, 3, 4, 5, 0] rfl)
abbrev rmX7_ruleBroken : Room := { frames := 5, cells := 0, slots := 0, locals := 114 }
set_option maxHeartbeats 4000000 in
set_option maxRecDepth 100000 in
theorem c_X7_ruleBroken (l : Launch) (X : mp_X) (G : mp_G) (A : Nat → Prop) (M : mp_M) (bq : Nat) (l0 : Nat) (l1 : Nat) (l2 : Nat) (l3 : Nat) (tp : Nat) (tz : Nat) (td : Int32) (fl : Int32) (tt : Nat → Int32) (pl : Nat) (ra : Nat → Nat) (Rg : Nat → rg_R) (pn : Nat) (pa : Nat → Nat) (pf : Nat → Int32) (pk : Nat → Int32) (zc : Nat → Nat) (zz : Nat → Nat → zr) (ap : Nat) (aa : Nat → Nat) (dq : Nat → Nat) (av : Nat → Nat → Int32) (dv : Nat → ds_D) (nh : Nat) (ah : Nat → Nat) (vh : Nat → Nat → Int32) (hB : BN G X M bq l0 l1 l2 l3 tp tz td fl tt pl ra Rg pn pa pf pk zc zz ap aa dq av dv nh ah vh) (d1 : Nat) (D1 : ds_D) (g1 : DesAt M d1 D1) (r0 : Nat) (hr0 : r0 < pl) (er : D1.1 = nI r0) (d k : Int32) : mp_Met l X G A yX7_ruleBroken wsX7_ruleBroken rmX7_ruleBroken ([.ref bq, .ref d1, .int d, .int k] : List Value) M (fun r M1 => r = some (.int (cs_rule pn pf pk zc zz ap av dv (Rg r0) D1 d k)) ∧ M1 = M) 0 0 := by
  refine mp_ofW (cc := cX7_ruleBroken) (maxL := 6) (ret := (some .int)) (by decide) rfl (Nat.le_of_ble_eq_true rfl) ?_
  intro p e s m below meth c ls hx hb hr hts hown hlocks hnm hml hC hM hS hl
  have hl : lv_has ls 6 [(0, .ref bq), (1, .ref d1), (2, .int d), (3, .int k)] := hl
  have hown : s.vm.findClass RX7 = some m.cls := hown
  have hin_wsX10 : ∀ w ∈ wsX10, w ∈ wsX7_ruleBroken := fun _ h => List.mem_cons_of_mem _ (List.mem_append_left _ (List.mem_append_left _ (List.mem_append_left _ (List.mem_append_left _ (List.mem_append_left _ (List.mem_append_left _ (List.mem_append_right _ h)))))))
  have nf_161 := hC.2.1 (.fieldLinkNest RX7 161 "PlanningBench$Design" "plot" "I" "PlanningBench") (List.mem_of_getElem? (i := 12) rfl)
  have hin_wsX60 : ∀ w ∈ wsX60, w ∈ wsX7_ruleBroken := fun _ h => List.mem_cons_of_mem _ (List.mem_append_left _ (List.mem_append_left _ (List.mem_append_left _ (List.mem_append_left _ (List.mem_append_left _ (List.mem_append_right _ h))))))
  have nf_200 := hC.2.1 (.fieldLinkNest RX7 200 "PlanningBench$Zone" "shade" "I" "PlanningBench") (List.mem_of_getElem? (i := 10) rfl)
  have nf_189 := hC.2.1 (.fieldLinkNest RX7 189 "PlanningBench$Zone" "edge" "I" "PlanningBench") (List.mem_of_getElem? (i := 9) rfl)
  have nf_182 := hC.2.1 (.fieldLinkNest RX7 182 "PlanningBench$Zone" "cover" "I" "PlanningBench") (List.mem_of_getElem? (i := 8) rfl)
  have nf_172 := hC.2.1 (.fieldLinkNest RX7 172 "PlanningBench$Design" "use" "I" "PlanningBench") (List.mem_of_getElem? (i := 18) rfl)
  have nf_178 := hC.2.1 (.fieldLinkNest RX7 178 "PlanningBench$Zone" "height" "I" "PlanningBench") (List.mem_of_getElem? (i := 7) rfl)
  have nf_181 := hC.2.1 (.fieldLinkNest RX7 181 "PlanningBench$Design" "height" "I" "PlanningBench") (List.mem_of_getElem? (i := 17) rfl)
  have hb9 := hB.b
  obtain ⟨kd1, hD1⟩ := id g1
  refine lv_aload_n hx hb dX7_ruleBroken_0 rfl (lv_at hl 0 rfl) ?_
  refine lv_aload_n hx hb dX7_ruleBroken_1 rfl (lv_at hl 1 rfl) ?_
  refine va_getN (D := G.1) (C := RX1) (T := TX1) (N := 7) (ci := 2) hx hb hts hin_wsX10 hown hC.1 (hM.one hD1) 0 rfl rfl 0 (by decide) (va_Nw.use rfl nf_161) (fun _ z => z) rfl dX7_ruleBroken_2 ?_
  refine mp_top (nI r0) er ?_
  refine mp_callr (va_runV (As := [.int (nI r0)]) (rest := []) ⟨hx, hb, hml, hown, hts⟩ (c_X7_ringAt l X G A (M) bq l0 l1 l2 l3 tp tz td fl tt pl ra Rg pn pa pf pk zc zz ap aa dq av dv nh ah vh hB r0 hr0) (cwV 1 hts gX7_ruleBroken_X7_ringAt rfl rfl rfl (by decide +kernel) ⟨Nat.le_of_ble_eq_true rfl, Nat.le_of_ble_eq_true rfl⟩) (mp_preV hC hS hM (mp_recv hC.1 hM hB.O (r := (RX7, TX7, 9)) rfl)) rfl rfl hl.1 rfl (lv_room (Nat.le_of_ble_eq_true rfl)) dX7_ruleBroken_5 ⟨Nat.le_of_ble_eq_true rfl, Nat.le_of_ble_eq_true rfl⟩) hS (fun H locs hM hS => ?_)
  obtain ⟨ax_r0, ay_r0, hR_r0, hX_r0, hY_r0, hs_r0⟩ := hB.R (i := r0) (by omega)
  refine lv_astore (lv' := [(4, .ref (ra r0)), (0, .ref bq), (1, .ref d1), (2, .int d), (3, .int k)]) hx hb dX7_ruleBroken_8 hl (by decide) rfl (fun ls hl => ?_)
  refine lv_aload hx hb dX7_ruleBroken_10 (lv_at hl 0 rfl) ?_
  refine lv_ifnull hx hb dX7_ruleBroken_12 ?_
  refine lv_aload hx hb dX7_ruleBroken_15 (lv_at hl 0 rfl) ?_
  refine lv_aload_n hx hb dX7_ruleBroken_17 rfl (lv_at hl 2 rfl) ?_
  refine mp_calli (va_runV (As := [.ref d1]) (rest := []) ⟨hx, hb, hml, hown, hts⟩ (c_X5_surrounds l X G A (M) (ra r0) (Rg r0) (hB.Rt (i := r0) (by omega)) (hB.Rs (i := r0) (by omega)) (d1) D1 g1) (cwV 1 hts gX7_ruleBroken_X5_surrounds rfl rfl rfl (by decide +kernel) ⟨Nat.le_of_ble_eq_true rfl, Nat.le_of_ble_eq_true rfl⟩) (mp_preV hC hS hM (mp_recv hC.1 hM hR_r0 (r := (RX5, TX5, 3)) rfl)) rfl rfl hl.1 rfl (lv_room (Nat.le_of_ble_eq_true rfl)) dX7_ruleBroken_18 ⟨Nat.le_of_ble_eq_true rfl, Nat.le_of_ble_eq_true rfl⟩) hS (fun H locs hM hS => ?_)
  refine lv_if_ne (tgt := 26) hx hb dX7_ruleBroken_21 (by decide) (fun c1 => ?_) (fun c1 => ?_)
  · have c1 : (pB (cs_in (Rg r0) D1)) = true := bI_1.mp c1
    refine lv_aload_n hx hb dX7_ruleBroken_26 rfl (lv_at hl 1 rfl) ?_
    refine lv_aload_n hx hb dX7_ruleBroken_27 rfl (lv_at hl 2 rfl) ?_
    refine va_getN (D := G.1) (C := RX1) (T := TX1) (N := 7) (ci := 2) hx hb hts hin_wsX10 hown hC.1 (hM.one hD1) 0 rfl rfl 0 (by decide) (va_Nw.use rfl nf_161) (fun _ z => z) rfl dX7_ruleBroken_28 ?_
    refine lv_iload_n hx hb dX7_ruleBroken_31 rfl (lv_at hl 3 rfl) ?_
    refine lv_iload_n hx hb dX7_ruleBroken_32 rfl (lv_at hl 4 rfl) ?_
    refine mp_call (va_runV (As := [.int D1.1, .int d, .int k]) (rest := []) ⟨hx, hb, hml, hown, hts⟩ (c_X7_zoneInForce l X G A (M) bq l0 l1 l2 l3 tp tz td fl tt pl ra Rg pn pa pf pk zc zz ap aa dq av dv nh ah vh hB D1.1 d k) (cwV 3 hts gX7_ruleBroken_X7_zoneInForce rfl rfl rfl (by decide +kernel) ⟨Nat.le_of_ble_eq_true rfl, Nat.le_of_ble_eq_true rfl⟩) (mp_preV hC hS hM (mp_recv hC.1 hM hB.O (r := (RX7, TX7, 9)) rfl)) rfl rfl hl.1 rfl (lv_room (Nat.le_of_ble_eq_true rfl)) dX7_ruleBroken_33 ⟨Nat.le_of_ble_eq_true rfl, Nat.le_of_ble_eq_true rfl⟩) hS (fun v M1 H locs hp hM hS => ?_)
    rcases hp with ⟨hz0, rfl, eM⟩ | ⟨i, z, aq, kz, hz0, rfl, hzz, eM⟩
    · skip
      rw [eM] at hM
      refine lv_astoreN (lv' := [(5, .null), (4, .ref (ra r0)), (0, .ref bq), (1, .ref d1), (2, .int d), (3, .int k)]) hx hb dX7_ruleBroken_36 hl (by decide) rfl (fun ls hl => ?_)
      refine lv_aloadN hx hb dX7_ruleBroken_38 (lv_at hl 0 rfl) ?_
      refine lv_ifnonnullN hx hb dX7_ruleBroken_40 ?_
      refine lv_iconst (v := (2 : Int32)) hx hb dX7_ruleBroken_43 (by decide) ?_
      exact mp_iret hx hb hr hlocks (Nat.le_of_ble_eq_true rfl) (Nat.le_of_ble_eq_true rfl) hM hS dX7_ruleBroken_44 (⟨by rw [cs_rule, pB_t (pB_iff.mp c1), if_pos rfl, hz0], rfl⟩)
    · skip
      rw [eM] at hM
      refine lv_astore (lv' := [(5, .ref aq), (4, .ref (ra r0)), (0, .ref bq), (1, .ref d1), (2, .int d), (3, .int k)]) hx hb dX7_ruleBroken_36 hl (by decide) rfl (fun ls hl => ?_)
      refine lv_aload hx hb dX7_ruleBroken_38 (lv_at hl 0 rfl) ?_
      refine lv_ifnonnull (tgt := 45) hx hb dX7_ruleBroken_40 (by decide) ?_
      have LP180 : ∀  (ls : Array Slot) (H : Heap) (locs : List Loc), cs_rule pn pf pk zc zz ap av dv (Rg r0) D1 d k = 0 → mp_P G.1 A M H → va_S A s.heap H locs → lv_has ls 6 [(0, .ref bq), (1, .ref d1), (2, .int d), (3, .int k), (4, .ref (ra r0)), (5, .ref aq)] → W p l e rmX7_ruleBroken s m ([.ref bq, .ref d1, .int d, .int k] : List Value).toArray below meth c H locs 0 0 (MQ below (mp_Q G.1 A (fun r M1 => r = some (.int (cs_rule pn pf pk zc zz ap av dv (Rg r0) D1 d k)) ∧ M1 = M)) ([.ref bq, .ref d1, .int d, .int k] : List Value).toArray s 0 0 A) (F0 m 180 ls []) := by
        intro  ls H locs hru hM hS hl
        refine lv_iconst (v := (0 : Int32)) hx hb dX7_ruleBroken_180 (by decide) ?_
        exact mp_iret hx hb hr hlocks (Nat.le_of_ble_eq_true rfl) (Nat.le_of_ble_eq_true rfl) hM hS dX7_ruleBroken_181 (⟨by rw [hru], rfl⟩)
      have LP140 : ∀  (ls : Array Slot) (H : Heap) (locs : List Loc), cs_rule pn pf pk zc zz ap av dv (Rg r0) D1 d k = cs_s7 ap av dv D1 (zrv (zz i z)) d k → mp_P G.1 A M H → va_S A s.heap H locs → lv_has ls 6 [(0, .ref bq), (1, .ref d1), (2, .int d), (3, .int k), (4, .ref (ra r0)), (5, .ref aq)] → W p l e rmX7_ruleBroken s m ([.ref bq, .ref d1, .int d, .int k] : List Value).toArray below meth c H locs 0 0 (MQ below (mp_Q G.1 A (fun r M1 => r = some (.int (cs_rule pn pf pk zc zz ap av dv (Rg r0) D1 d k)) ∧ M1 = M)) ([.ref bq, .ref d1, .int d, .int k] : List Value).toArray s 0 0 A) (F0 m 140 ls []) := by
        intro  ls H locs hru hM hS hl
        refine lv_aload_n hx hb dX7_ruleBroken_140 rfl (lv_at hl 0 rfl) ?_
        refine lv_aload_n hx hb dX7_ruleBroken_141 rfl (lv_at hl 1 rfl) ?_
        refine lv_iload_n hx hb dX7_ruleBroken_142 rfl (lv_at hl 2 rfl) ?_
        refine lv_iload_n hx hb dX7_ruleBroken_143 rfl (lv_at hl 3 rfl) ?_
        refine mp_calli (va_runV (As := [.ref d1, .int d, .int k]) (rest := []) ⟨hx, hb, hml, hown, hts⟩ (c_X7_meetsStanding l X G A (M) bq l0 l1 l2 l3 tp tz td fl tt pl ra Rg pn pa pf pk zc zz ap aa dq av dv nh ah vh hB (d1) D1 g1 d k) (cwV 3 hts gX7_ruleBroken_X7_meetsStanding rfl rfl rfl (by decide +kernel) ⟨Nat.le_of_ble_eq_true rfl, Nat.le_of_ble_eq_true rfl⟩) (mp_preV hC hS hM (mp_recv hC.1 hM hB.O (r := (RX7, TX7, 9)) rfl)) rfl rfl hl.1 rfl (lv_room (Nat.le_of_ble_eq_true rfl)) dX7_ruleBroken_144 ⟨Nat.le_of_ble_eq_true rfl, Nat.le_of_ble_eq_true rfl⟩) hS (fun H locs hM hS => ?_)
        refine lv_if_eq (tgt := 153) hx hb dX7_ruleBroken_147 (by decide) (fun c6 => ?_) (fun c6 => ?_)
        · have c6 : (pB (∃ u, u < ap ∧ cs_stP av dv D1 d k u)) = false := bI_0.mp c6
          refine lv_aload hx hb dX7_ruleBroken_153 (lv_at hl 5 rfl) ?_
          refine va_getN (D := G.1) (C := RX6) (T := TX6) (N := 6) (ci := 7) hx hb hts hin_wsX60 hown hC.1 (hM.one hzz) 0 rfl rfl 5 (by decide) (va_Nw.use rfl nf_200) (fun _ z => z) rfl dX7_ruleBroken_155 ?_
          refine lv_iconst (v := (-1 : Int32)) hx hb dX7_ruleBroken_158 (by decide) ?_
          refine lv_icmp_eq (tgt := 180) hx hb dX7_ruleBroken_159 (by decide) (fun c7 => ?_) (fun c7 => ?_)
          · have c7 := c7
            exact LP180 ls _ _ (hru.trans (by rw [cs_s7, c6, if_neg (by decide), cs_s8, pB_f (fun z => z.1 c7)]; rfl)) hM hS (lv_sub hl [0, 1, 2, 3, 4, 5] rfl)
          · have c7 := c7
            refine lv_aload_n hx hb dX7_ruleBroken_162 rfl (lv_at hl 0 rfl) ?_
            refine lv_aload_n hx hb dX7_ruleBroken_163 rfl (lv_at hl 1 rfl) ?_
            refine lv_aload hx hb dX7_ruleBroken_164 (lv_at hl 5 rfl) ?_
            refine va_getN (D := G.1) (C := RX6) (T := TX6) (N := 6) (ci := 7) hx hb hts hin_wsX60 hown hC.1 (hM.one hzz) 0 rfl rfl 5 (by decide) (va_Nw.use rfl nf_200) (fun _ z => z) rfl dX7_ruleBroken_166 ?_
            refine lv_iload_n hx hb dX7_ruleBroken_169 rfl (lv_at hl 2 rfl) ?_
            refine lv_iload_n hx hb dX7_ruleBroken_170 rfl (lv_at hl 3 rfl) ?_
            refine mp_calli (va_runV (As := [.ref d1, .int (zrv (zz i z) 5), .int d, .int k]) (rest := []) ⟨hx, hb, hml, hown, hts⟩ (c_X7_shadesStanding l X G A (M) bq l0 l1 l2 l3 tp tz td fl tt pl ra Rg pn pa pf pk zc zz ap aa dq av dv nh ah vh hB (d1) D1 g1 (zrv (zz i z) 5) d k) (cwV 4 hts gX7_ruleBroken_X7_shadesStanding rfl rfl rfl (by decide +kernel) ⟨Nat.le_of_ble_eq_true rfl, Nat.le_of_ble_eq_true rfl⟩) (mp_preV hC hS hM (mp_recv hC.1 hM hB.O (r := (RX7, TX7, 9)) rfl)) rfl rfl hl.1 rfl (lv_room (Nat.le_of_ble_eq_true rfl)) dX7_ruleBroken_171 ⟨Nat.le_of_ble_eq_true rfl, Nat.le_of_ble_eq_true rfl⟩) hS (fun H locs hM hS => ?_)
            refine lv_if_eq (tgt := 180) hx hb dX7_ruleBroken_174 (by decide) (fun c8 => ?_) (fun c8 => ?_)
            · have c8 : (pB (∃ u, u < ap ∧ cs_shP av dv D1 (zrv (zz i z) 5) d k u)) = false := bI_0.mp c8
              exact LP180 ls _ _ (hru.trans (by rw [cs_s7, c6, if_neg (by decide), cs_s8, pB_f (fun z => pB_not.mp c8 z.2)]; rfl)) hM hS (lv_sub hl [0, 1, 2, 3, 4, 5] rfl)
            · have c8 : (pB (∃ u, u < ap ∧ cs_shP av dv D1 (zrv (zz i z) 5) d k u)) = true := bI_1.mp c8
              refine lv_bipush (v := (8 : Int32)) hx hb dX7_ruleBroken_177 (by decide) ?_
              exact mp_iret hx hb hr hlocks (Nat.le_of_ble_eq_true rfl) (Nat.le_of_ble_eq_true rfl) hM hS dX7_ruleBroken_179 (⟨by rw [hru, cs_s7, c6, if_neg (by decide), cs_s8, pB_t ⟨c7, pB_iff.mp c8⟩]; rfl, rfl⟩)
        · have c6 : (pB (∃ u, u < ap ∧ cs_stP av dv D1 d k u)) = true := bI_1.mp c6
          refine lv_bipush (v := (7 : Int32)) hx hb dX7_ruleBroken_150 (by decide) ?_
          exact mp_iret hx hb hr hlocks (Nat.le_of_ble_eq_true rfl) (Nat.le_of_ble_eq_true rfl) hM hS dX7_ruleBroken_152 (⟨by rw [hru, cs_s7, c6]; rfl, rfl⟩)
      have LP114 : ∀  (ls : Array Slot) (H : Heap) (locs : List Loc), cs_rule pn pf pk zc zz ap av dv (Rg r0) D1 d k = cs_s6 ap av dv (Rg r0) D1 (zrv (zz i z)) d k → mp_P G.1 A M H → va_S A s.heap H locs → lv_has ls 6 [(0, .ref bq), (1, .ref d1), (2, .int d), (3, .int k), (4, .ref (ra r0)), (5, .ref aq)] → W p l e rmX7_ruleBroken s m ([.ref bq, .ref d1, .int d, .int k] : List Value).toArray below meth c H locs 0 0 (MQ below (mp_Q G.1 A (fun r M1 => r = some (.int (cs_rule pn pf pk zc zz ap av dv (Rg r0) D1 d k)) ∧ M1 = M)) ([.ref bq, .ref d1, .int d, .int k] : List Value).toArray s 0 0 A) (F0 m 114 ls []) := by
        intro  ls H locs hru hM hS hl
        refine lv_aload hx hb dX7_ruleBroken_114 (lv_at hl 5 rfl) ?_
        refine va_getN (D := G.1) (C := RX6) (T := TX6) (N := 6) (ci := 7) hx hb hts hin_wsX60 hown hC.1 (hM.one hzz) 0 rfl rfl 4 (by decide) (va_Nw.use rfl nf_189) (fun _ z => z) rfl dX7_ruleBroken_116 ?_
        refine lv_iconst (v := (-1 : Int32)) hx hb dX7_ruleBroken_119 (by decide) ?_
        refine lv_icmp_eq (tgt := 140) hx hb dX7_ruleBroken_120 (by decide) (fun c6 => ?_) (fun c6 => ?_)
        · have c6 := c6
          exact LP140 ls _ _ (hru.trans (by rw [cs_s6, pB_f (fun z => z.1 c6)]; rfl)) hM hS (lv_sub hl [0, 1, 2, 3, 4, 5] rfl)
        · have c6 := c6
          refine lv_aload hx hb dX7_ruleBroken_123 (lv_at hl 4 rfl) ?_
          refine lv_aload hx hb dX7_ruleBroken_125 (lv_at hl 5 rfl) ?_
          refine va_getN (D := G.1) (C := RX6) (T := TX6) (N := 6) (ci := 7) hx hb hts hin_wsX60 hown hC.1 (hM.one hzz) 0 rfl rfl 4 (by decide) (va_Nw.use rfl nf_189) (fun _ z => z) rfl dX7_ruleBroken_127 ?_
          refine lv_aload_n hx hb dX7_ruleBroken_130 rfl (lv_at hl 1 rfl) ?_
          refine mp_calli (va_runV (As := [.int (zrv (zz i z) 4), .ref d1]) (rest := []) ⟨hx, hb, hml, hown, hts⟩ (c_X5_hasSideNearerThan l X G A (M) (ra r0) (Rg r0) (hB.Rt (i := r0) (by omega)) (hB.Rs (i := r0) (by omega)) (zrv (zz i z) 4) (d1) D1 g1) (cwV 2 hts gX7_ruleBroken_X5_hasSideNearerThan rfl rfl rfl (by decide +kernel) ⟨Nat.le_of_ble_eq_true rfl, Nat.le_of_ble_eq_true rfl⟩) (mp_preV hC hS hM (mp_recv hC.1 hM hR_r0 (r := (RX5, TX5, 3)) rfl)) rfl rfl hl.1 rfl (lv_room (Nat.le_of_ble_eq_true rfl)) dX7_ruleBroken_131 ⟨Nat.le_of_ble_eq_true rfl, Nat.le_of_ble_eq_true rfl⟩) hS (fun H locs hM hS => ?_)
          refine lv_if_eq (tgt := 140) hx hb dX7_ruleBroken_134 (by decide) (fun c7 => ?_) (fun c7 => ?_)
          · have c7 : (pB (cs_tig (Rg r0) D1 (zrv (zz i z) 4))) = false := bI_0.mp c7
            exact LP140 ls _ _ (hru.trans (by rw [cs_s6, pB_f (fun z => pB_not.mp c7 z.2)]; rfl)) hM hS (lv_sub hl [0, 1, 2, 3, 4, 5] rfl)
          · have c7 : (pB (cs_tig (Rg r0) D1 (zrv (zz i z) 4))) = true := bI_1.mp c7
            refine lv_bipush (v := (6 : Int32)) hx hb dX7_ruleBroken_137 (by decide) ?_
            exact mp_iret hx hb hr hlocks (Nat.le_of_ble_eq_true rfl) (Nat.le_of_ble_eq_true rfl) hM hS dX7_ruleBroken_139 (⟨by rw [hru, cs_s6, pB_t ⟨c6, pB_iff.mp c7⟩]; rfl, rfl⟩)
      have LP82 : ∀  (ls : Array Slot) (H : Heap) (locs : List Loc), cs_rule pn pf pk zc zz ap av dv (Rg r0) D1 d k = cs_s5 ap av dv (Rg r0) D1 (zrv (zz i z)) d k → mp_P G.1 A M H → va_S A s.heap H locs → lv_has ls 6 [(0, .ref bq), (1, .ref d1), (2, .int d), (3, .int k), (4, .ref (ra r0)), (5, .ref aq)] → W p l e rmX7_ruleBroken s m ([.ref bq, .ref d1, .int d, .int k] : List Value).toArray below meth c H locs 0 0 (MQ below (mp_Q G.1 A (fun r M1 => r = some (.int (cs_rule pn pf pk zc zz ap av dv (Rg r0) D1 d k)) ∧ M1 = M)) ([.ref bq, .ref d1, .int d, .int k] : List Value).toArray s 0 0 A) (F0 m 82 ls []) := by
        intro  ls H locs hru hM hS hl
        refine lv_aload hx hb dX7_ruleBroken_82 (lv_at hl 5 rfl) ?_
        refine va_getN (D := G.1) (C := RX6) (T := TX6) (N := 6) (ci := 7) hx hb hts hin_wsX60 hown hC.1 (hM.one hzz) 0 rfl rfl 3 (by decide) (va_Nw.use rfl nf_182) (fun _ z => z) rfl dX7_ruleBroken_84 ?_
        refine lv_iconst (v := (-1 : Int32)) hx hb dX7_ruleBroken_87 (by decide) ?_
        refine lv_icmp_eq (tgt := 114) hx hb dX7_ruleBroken_88 (by decide) (fun c6 => ?_) (fun c6 => ?_)
        · have c6 := c6
          exact LP114 ls _ _ (hru.trans (by rw [cs_s5, pB_f (fun z => z.1 c6)]; rfl)) hM hS (lv_sub hl [0, 1, 2, 3, 4, 5] rfl)
        · have c6 := c6
          refine lv_aload_n hx hb dX7_ruleBroken_91 rfl (lv_at hl 0 rfl) ?_
          refine lv_aload_n hx hb dX7_ruleBroken_92 rfl (lv_at hl 1 rfl) ?_
          refine lv_aload hx hb dX7_ruleBroken_93 (lv_at hl 5 rfl) ?_
          refine va_getN (D := G.1) (C := RX6) (T := TX6) (N := 6) (ci := 7) hx hb hts hin_wsX60 hown hC.1 (hM.one hzz) 0 rfl rfl 3 (by decide) (va_Nw.use rfl nf_182) (fun _ z => z) rfl dX7_ruleBroken_95 ?_
          refine lv_aload hx hb dX7_ruleBroken_98 (lv_at hl 4 rfl) ?_
          refine mp_calli (va_runV (As := []) (rest := [.int (zrv (zz i z) 3), .ref d1, .ref bq]) ⟨hx, hb, hml, hown, hts⟩ (c_X5_twiceArea l X G A (M) (ra r0) (Rg r0) (hB.Rt (i := r0) (by omega)) (hB.Rs (i := r0) (by omega))) (cwV 0 hts gX7_ruleBroken_X5_twiceArea rfl rfl rfl (by decide +kernel) ⟨Nat.le_of_ble_eq_true rfl, Nat.le_of_ble_eq_true rfl⟩) (mp_preV hC hS hM (mp_recv hC.1 hM hR_r0 (r := (RX5, TX5, 3)) rfl)) rfl rfl hl.1 rfl (lv_room (Nat.le_of_ble_eq_true rfl)) dX7_ruleBroken_100 ⟨Nat.le_of_ble_eq_true rfl, Nat.le_of_ble_eq_true rfl⟩) hS (fun H locs hM hS => ?_)
          refine lv_imul hx hb dX7_ruleBroken_103 ?_
          refine lv_iload_n hx hb dX7_ruleBroken_104 rfl (lv_at hl 2 rfl) ?_
          refine lv_iload_n hx hb dX7_ruleBroken_105 rfl (lv_at hl 3 rfl) ?_
          refine mp_calli (va_runV (As := [.ref d1, .int ((zrv (zz i z) 3) * (rg_sum (rg_ar2 (Rg r0)) (Rg r0).2.2)), .int d, .int k]) (rest := []) ⟨hx, hb, hml, hown, hts⟩ (c_X7_coversTooMuch l X G A (M) bq l0 l1 l2 l3 tp tz td fl tt pl ra Rg pn pa pf pk zc zz ap aa dq av dv nh ah vh hB (d1) D1 g1 ((zrv (zz i z) 3) * (rg_sum (rg_ar2 (Rg r0)) (Rg r0).2.2)) d k) (cwV 4 hts gX7_ruleBroken_X7_coversTooMuch rfl rfl rfl (by decide +kernel) ⟨Nat.le_of_ble_eq_true rfl, Nat.le_of_ble_eq_true rfl⟩) (mp_preV hC hS hM (mp_recv hC.1 hM hB.O (r := (RX7, TX7, 9)) rfl)) rfl rfl hl.1 rfl (lv_room (Nat.le_of_ble_eq_true rfl)) dX7_ruleBroken_106 ⟨Nat.le_of_ble_eq_true rfl, Nat.le_of_ble_eq_true rfl⟩) hS (fun H locs hM hS => ?_)
          refine lv_if_eq (tgt := 114) hx hb dX7_ruleBroken_109 (by decide) (fun c7 => ?_) (fun c7 => ?_)
          · have c7 : (pB (((zrv (zz i z) 3) * (rg_sum (rg_ar2 (Rg r0)) (Rg r0).2.2)) < 200 * cs_cov av dv D1.1 d k (ds_area D1) ap)) = false := bI_0.mp c7
            exact LP114 ls _ _ (hru.trans (by rw [cs_s5, pB_f (fun z => pB_not.mp c7 z.2)]; rfl)) hM hS (lv_sub hl [0, 1, 2, 3, 4, 5] rfl)
          · have c7 : (pB (((zrv (zz i z) 3) * (rg_sum (rg_ar2 (Rg r0)) (Rg r0).2.2)) < 200 * cs_cov av dv D1.1 d k (ds_area D1) ap)) = true := bI_1.mp c7
            refine lv_iconst (v := (5 : Int32)) hx hb dX7_ruleBroken_112 (by decide) ?_
            exact mp_iret hx hb hr hlocks (Nat.le_of_ble_eq_true rfl) (Nat.le_of_ble_eq_true rfl) hM hS dX7_ruleBroken_113 (⟨by rw [hru, cs_s5, pB_t ⟨c6, pB_iff.mp c7⟩]; rfl, rfl⟩)
      have hru : cs_rule pn pf pk zc zz ap av dv (Rg r0) D1 d k = cs_s3 ap av dv (Rg r0) D1 (zrv (zz i z)) d k := by rw [cs_rule, pB_t (pB_iff.mp c1), if_pos rfl, hz0]
      refine lv_aload hx hb dX7_ruleBroken_45 (lv_at hl 0 rfl) ?_
      refine lv_aload_n hx hb dX7_ruleBroken_47 rfl (lv_at hl 3 rfl) ?_
      refine va_getN (D := G.1) (C := RX1) (T := TX1) (N := 7) (ci := 2) hx hb hts hin_wsX10 hown hC.1 (hM.one hD1) 0 rfl rfl 6 (by decide) (va_Nw.use rfl nf_172) (fun _ z => z) rfl dX7_ruleBroken_48 ?_
      refine mp_calli (va_runV (As := [.int D1.2.2.2.2.2.2]) (rest := []) ⟨hx, hb, hml, hown, hts⟩ (c_X6_allowsUse l X G A (M) aq (zrv (zz i z)) ⟨kz, hzz⟩ D1.2.2.2.2.2.2) (cwV 1 hts gX7_ruleBroken_X6_allowsUse rfl rfl rfl (by decide +kernel) ⟨Nat.le_of_ble_eq_true rfl, Nat.le_of_ble_eq_true rfl⟩) (mp_preV hC hS hM (mp_recv hC.1 hM hzz (r := (RX6, TX6, 6)) rfl)) rfl rfl hl.1 rfl (lv_room (Nat.le_of_ble_eq_true rfl)) dX7_ruleBroken_51 ⟨Nat.le_of_ble_eq_true rfl, Nat.le_of_ble_eq_true rfl⟩) hS (fun H locs hM hS => ?_)
      refine lv_if_ne (tgt := 59) hx hb dX7_ruleBroken_54 (by decide) (fun c3 => ?_) (fun c3 => ?_)
      · have c3 : (pB (¬ (zrv (zz i z)) 1 &&& btO D1.2.2.2.2.2.2 = 0)) = true := bI_1.mp c3
        refine lv_aload hx hb dX7_ruleBroken_59 (lv_at hl 0 rfl) ?_
        refine va_getN (D := G.1) (C := RX6) (T := TX6) (N := 6) (ci := 7) hx hb hts hin_wsX60 hown hC.1 (hM.one hzz) 0 rfl rfl 2 (by decide) (va_Nw.use rfl nf_178) (fun _ z => z) rfl dX7_ruleBroken_61 ?_
        refine lv_iconst (v := (-1 : Int32)) hx hb dX7_ruleBroken_64 (by decide) ?_
        refine lv_icmp_eq (tgt := 82) hx hb dX7_ruleBroken_65 (by decide) (fun c4 => ?_) (fun c4 => ?_)
        · have c4 := c4
          exact LP82 ls _ _ (hru.trans (by rw [cs_s3, c3, if_pos rfl, cs_s4, pB_f (fun z => z.1 c4)]; rfl)) hM hS (lv_sub hl [2, 3, 4, 5, 1, 0] rfl)
        · have c4 := c4
          refine lv_aload_n hx hb dX7_ruleBroken_68 rfl (lv_at hl 3 rfl) ?_
          refine va_getN (D := G.1) (C := RX1) (T := TX1) (N := 7) (ci := 2) hx hb hts hin_wsX10 hown hC.1 (hM.one hD1) 0 rfl rfl 5 (by decide) (va_Nw.use rfl nf_181) (fun _ z => z) rfl dX7_ruleBroken_69 ?_
          refine lv_aload hx hb dX7_ruleBroken_72 (lv_at hl 0 rfl) ?_
          refine va_getN (D := G.1) (C := RX6) (T := TX6) (N := 6) (ci := 7) hx hb hts hin_wsX60 hown hC.1 (hM.one hzz) 0 rfl rfl 2 (by decide) (va_Nw.use rfl nf_178) (fun _ z => z) rfl dX7_ruleBroken_74 ?_
          refine lv_icmp_le (tgt := 82) hx hb dX7_ruleBroken_77 (by decide) (fun c5 => ?_) (fun c5 => ?_)
          · have c5 := c5
            exact LP82 ls _ _ (hru.trans (by rw [cs_s3, c3, if_pos rfl, cs_s4, pB_f (fun z => absurd z.2 (i_nlt.mpr c5))]; rfl)) hM hS (lv_sub hl [2, 3, 4, 5, 1, 0] rfl)
          · have c5 := c5
            refine lv_iconst (v := (4 : Int32)) hx hb dX7_ruleBroken_80 (by decide) ?_
            exact mp_iret hx hb hr hlocks (Nat.le_of_ble_eq_true rfl) (Nat.le_of_ble_eq_true rfl) hM hS dX7_ruleBroken_81 (⟨by rw [hru, cs_s3, c3, if_pos rfl, cs_s4, pB_t ⟨c4, i_nle.mp c5⟩]; rfl, rfl⟩)
      · have c3 : (pB (¬ (zrv (zz i z)) 1 &&& btO D1.2.2.2.2.2.2 = 0)) = false := bI_0.mp c3
        refine lv_iconst (v := (3 : Int32)) hx hb dX7_ruleBroken_57 (by decide) ?_
        exact mp_iret hx hb hr hlocks (Nat.le_of_ble_eq_true rfl) (Nat.le_of_ble_eq_true rfl) hM hS dX7_ruleBroken_58 (⟨by rw [hru, cs_s3, c3]; rfl, rfl⟩)
  · have c1 : (pB (cs_in (Rg r0) D1)) = false := bI_0.mp c1
    refine lv_iconst (v := (1 : Int32)) hx hb dX7_ruleBroken_24 (by decide) ?_
    exact mp_iret hx hb hr hlocks (Nat.le_of_ble_eq_true rfl) (Nat.le_of_ble_eq_true rfl) hM hS dX7_ruleBroken_25 (⟨by rw [cs_rule, pB_f (pB_not.mp c1)]; rfl, rfl⟩)
abbrev rmX7_judge : Room := { frames := 6, cells := 1, slots := 7, locals := 139 }
set_option maxHeartbeats 4000000 in
set_option maxRecDepth 100000 in
theorem c_X7_judge (l : Launch) (X : mp_X) (G : mp_G) (A : Nat → Prop) (M : mp_M) (bq : Nat) (l0 : Nat) (l1 : Nat) (l2 : Nat) (l3 : Nat) (tp : Nat) (tz : Nat) (td : Int32) (fl : Int32) (tt : Nat → Int32) (pl : Nat) (ra : Nat → Nat) (Rg : Nat → rg_R) (pn : Nat) (pa : Nat → Nat) (pf : Nat → Int32) (pk : Nat → Int32) (zc : Nat → Nat) (zz : Nat → Nat → zr) (ap : Nat) (aa : Nat → Nat) (dq : Nat → Nat) (av : Nat → Nat → Int32) (dv : Nat → ds_D) (nh : Nat) (ah : Nat → Nat) (vh : Nat → Nat → Int32) (hB : BN G X M bq l0 l1 l2 l3 tp tz td fl tt pl ra Rg pn pa pf pk zc zz ap aa dq av dv nh ah vh) (q x0 y0 x1 y1 ht us : Int32) (d k : Int32) (h25 : M (9, 2, 0) = none) : mp_Met l X G A yX7_judge wsX7_judge rmX7_judge ([.ref bq, .int q, .int x0, .int y0, .int x1, .int y1, .int ht, .int us, .int d, .int k] : List Value) M (fun r M1 => r = some (.int (cs_judge pl Rg pn pf pk zc zz ap av dv q x0 y0 x1 y1 ht us d k)) ∧ M1 = M) 1 7 := by
  refine mp_ofW (cc := cX7_judge) (maxL := 11) (ret := (some .int)) (by decide) rfl (Nat.le_of_ble_eq_true rfl) ?_
  intro p e s m below meth c ls hx hb hr hts hown hlocks hnm hml hC hM hS hl
  have hl : lv_has ls 11 [(0, .ref bq), (1, .int q), (2, .int x0), (3, .int y0), (4, .int x1), (5, .int y1), (6, .int ht), (7, .int us), (8, .int d), (9, .int k)] := hl
  have hown : s.vm.findClass RX7 = some m.cls := hown
  have hb9 := hB.b
  refine lv_aload_n hx hb dX7_judge_0 rfl (lv_at hl 0 rfl) ?_
  refine lv_iload_n hx hb dX7_judge_1 rfl (lv_at hl 1 rfl) ?_
  refine lv_iload_n hx hb dX7_judge_2 rfl (lv_at hl 2 rfl) ?_
  refine lv_iload_n hx hb dX7_judge_3 rfl (lv_at hl 3 rfl) ?_
  refine lv_iload hx hb dX7_judge_4 (lv_at hl 4 rfl) ?_
  refine lv_iload hx hb dX7_judge_6 (lv_at hl 5 rfl) ?_
  refine lv_iload hx hb dX7_judge_8 (lv_at hl 6 rfl) ?_
  refine lv_iload hx hb dX7_judge_10 (lv_at hl 7 rfl) ?_
  refine mp_call (va_runV (As := [.int q, .int x0, .int y0, .int x1, .int y1, .int ht, .int us]) (rest := []) ⟨hx, hb, hml, hown, hts⟩ (c_X7_designOn l X G A (M) bq l0 l1 l2 l3 tp tz td fl tt pl ra Rg pn pa pf pk zc zz ap aa dq av dv nh ah vh hB q x0 y0 x1 y1 ht us (9, 2, 0) h25) (cwV 7 hts gX7_judge_X7_designOn rfl rfl rfl (by decide +kernel) ⟨Nat.le_of_ble_eq_true rfl, Nat.le_of_ble_eq_true rfl⟩) (mp_preV hC hS hM (mp_recv hC.1 hM hB.O (r := (RX7, TX7, 9)) rfl)) rfl rfl hl.1 rfl (lv_room (Nat.le_of_ble_eq_true rfl)) dX7_judge_12 ⟨Nat.le_of_ble_eq_true rfl, Nat.le_of_ble_eq_true rfl⟩) hS (fun v M1 H locs hp hM hS => ?_)
  rcases hp with ⟨hds, qd, rfl, rfl⟩ | ⟨hds, rfl, eM⟩
  · skip
    obtain ⟨r0, hr0, er⟩ := id hds.1
    have nr : q.toNatClampNeg = r0 := by rw [er]; exact nI_clamp (by omega)
    have hB2 : BN G X (mp_set M (9, 2, 0) (qd, .inr (2, [.int q, .int x0, .int y0, .int x1, .int y1, .int ht, .int us]))) bq l0 l1 l2 l3 tp tz td fl tt pl ra Rg pn pa pf pk zc zz ap aa dq av dv nh ah vh := hB.congr (fun j hj _ => mp_set_n _ _ _ (fun z => by rw [z] at hj; simp at hj))
    refine lv_astore (lv' := [(10, .ref qd), (0, .ref bq), (1, .int q), (2, .int x0), (3, .int y0), (4, .int x1), (5, .int y1), (6, .int ht), (7, .int us), (8, .int d), (9, .int k)]) hx hb dX7_judge_15 hl (by decide) rfl (fun ls hl => ?_)
    refine lv_aload hx hb dX7_judge_17 (lv_at hl 0 rfl) ?_
    refine lv_ifnull hx hb dX7_judge_19 ?_
    refine lv_iload hx hb dX7_judge_22 (lv_at hl 9 rfl) ?_
    refine mp_calli (va_runS (As := [.int d]) (rest := []) ⟨hx, hb, hml, hown, hts⟩ (c_X7_isDay l X G A (mp_set M (9, 2, 0) (qd, .inr (2, [.int q, .int x0, .int y0, .int x1, .int y1, .int ht, .int us]))) d) (va_cwS 1 hts gX7_judge_X7_isDay rfl rfl rfl (by decide +kernel) ⟨Nat.le_of_ble_eq_true rfl, Nat.le_of_ble_eq_true rfl⟩) (mp_preS hC hS hM) rfl rfl hl.1 rfl (lv_room (Nat.le_of_ble_eq_true rfl)) dX7_judge_24 ⟨Nat.le_of_ble_eq_true rfl, Nat.le_of_ble_eq_true rfl⟩) hS (fun H locs hM hS => ?_)
    refine lv_if_eq (tgt := 38) hx hb dX7_judge_27 (by decide) (fun c1 => ?_) (fun c1 => ?_)
    · have c1 : (pB (md_in d 0 9999)) = false := bI_0.mp c1
      refine lv_iconst (v := (-1 : Int32)) hx hb dX7_judge_38 (by decide) ?_
      have hM : mp_P G.1 A M H := hM.sub (fun k z hk => (mp_set_n _ _ _ (cl_neN hk h25)).trans hk)
      exact mp_iret hx hb hr hlocks (Nat.le_of_ble_eq_true rfl) (Nat.le_of_ble_eq_true rfl) hM hS dX7_judge_39 (⟨by rw [cs_judge, pB_f (show ¬ (cs_des pl q x0 y0 x1 y1 ht us ∧ md_in d 0 9999 ∧ md_in k 0 9999) from fun z => pB_not.mp c1 z.2.1)]; rfl, rfl⟩)
    · have c1 : (pB (md_in d 0 9999)) = true := bI_1.mp c1
      refine lv_iload hx hb dX7_judge_30 (lv_at hl 10 rfl) ?_
      refine mp_calli (va_runS (As := [.int k]) (rest := []) ⟨hx, hb, hml, hown, hts⟩ (c_X7_isDay l X G A (mp_set M (9, 2, 0) (qd, .inr (2, [.int q, .int x0, .int y0, .int x1, .int y1, .int ht, .int us]))) k) (va_cwS 1 hts gX7_judge_X7_isDay rfl rfl rfl (by decide +kernel) ⟨Nat.le_of_ble_eq_true rfl, Nat.le_of_ble_eq_true rfl⟩) (mp_preS hC hS hM) rfl rfl hl.1 rfl (lv_room (Nat.le_of_ble_eq_true rfl)) dX7_judge_32 ⟨Nat.le_of_ble_eq_true rfl, Nat.le_of_ble_eq_true rfl⟩) hS (fun H locs hM hS => ?_)
      refine lv_if_ne (tgt := 40) hx hb dX7_judge_35 (by decide) (fun c3 => ?_) (fun c3 => ?_)
      · have c3 : (pB (md_in k 0 9999)) = true := bI_1.mp c3
        refine lv_aload_n hx hb dX7_judge_40 rfl (lv_at hl 1 rfl) ?_
        refine lv_aload hx hb dX7_judge_41 (lv_at hl 0 rfl) ?_
        refine lv_iload hx hb dX7_judge_43 (lv_at hl 9 rfl) ?_
        refine lv_iload hx hb dX7_judge_45 (lv_at hl 10 rfl) ?_
        refine mp_calli (va_runV (As := [.ref qd, .int d, .int k]) (rest := []) ⟨hx, hb, hml, hown, hts⟩ (c_X7_ruleBroken l X G A (mp_set M (9, 2, 0) (qd, .inr (2, [.int q, .int x0, .int y0, .int x1, .int y1, .int ht, .int us]))) bq l0 l1 l2 l3 tp tz td fl tt pl ra Rg pn pa pf pk zc zz ap aa dq av dv nh ah vh hB2 (qd) (q, x0, y0, x1, y1, ht, us) ⟨(9, 2, 0), mp_set_s _ _ _⟩ r0 hr0 er d k) (cwV 3 hts gX7_judge_X7_ruleBroken rfl rfl rfl (by decide +kernel) ⟨Nat.le_of_ble_eq_true rfl, Nat.le_of_ble_eq_true rfl⟩) (mp_preV hC hS hM (mp_recv hC.1 hM hB2.O (r := (RX7, TX7, 9)) rfl)) rfl rfl hl.1 rfl (lv_room (Nat.le_of_ble_eq_true rfl)) dX7_judge_47 ⟨Nat.le_of_ble_eq_true rfl, Nat.le_of_ble_eq_true rfl⟩) hS (fun H locs hM hS => ?_)
        have hM : mp_P G.1 A M H := hM.sub (fun k z hk => (mp_set_n _ _ _ (cl_neN hk h25)).trans hk)
        exact mp_iret hx hb hr hlocks (Nat.le_of_ble_eq_true rfl) (Nat.le_of_ble_eq_true rfl) hM hS dX7_judge_50 (⟨by rw [cs_judge, pB_t (show cs_des pl q x0 y0 x1 y1 ht us ∧ md_in d 0 9999 ∧ md_in k 0 9999 from ⟨hds, pB_iff.mp c1, pB_iff.mp c3⟩), if_pos rfl, nr], rfl⟩)
      · have c3 : (pB (md_in k 0 9999)) = false := bI_0.mp c3
        refine lv_iconst (v := (-1 : Int32)) hx hb dX7_judge_38 (by decide) ?_
        have hM : mp_P G.1 A M H := hM.sub (fun k z hk => (mp_set_n _ _ _ (cl_neN hk h25)).trans hk)
        exact mp_iret hx hb hr hlocks (Nat.le_of_ble_eq_true rfl) (Nat.le_of_ble_eq_true rfl) hM hS dX7_judge_39 (⟨by rw [cs_judge, pB_f (show ¬ (cs_des pl q x0 y0 x1 y1 ht us ∧ md_in d 0 9999 ∧ md_in k 0 9999) from fun z => pB_not.mp c3 z.2.2)]; rfl, rfl⟩)
  · skip
    rw [eM] at hM
    refine lv_astoreN (lv' := [(10, .null), (0, .ref bq), (1, .int q), (2, .int x0), (3, .int y0), (4, .int x1), (5, .int y1), (6, .int ht), (7, .int us), (8, .int d), (9, .int k)]) hx hb dX7_judge_15 hl (by decide) rfl (fun ls hl => ?_)
    refine lv_aloadN hx hb dX7_judge_17 (lv_at hl 0 rfl) ?_
    refine lv_ifnullN (tgt := 38) hx hb dX7_judge_19 (by decide) ?_
    refine lv_iconst (v := (-1 : Int32)) hx hb dX7_judge_38 (by decide) ?_
    exact mp_iret hx hb hr hlocks (Nat.le_of_ble_eq_true rfl) (Nat.le_of_ble_eq_true rfl) hM hS dX7_judge_39 (⟨by rw [cs_judge, pB_f (show ¬ (cs_des pl q x0 y0 x1 y1 ht us ∧ md_in d 0 9999 ∧ md_in k 0 9999) from fun z => hds z.1)]; rfl, rfl⟩)
abbrev rmX7_build : Room := { frames := 4, cells := 0, slots := 0, locals := 85 }
set_option maxHeartbeats 4000000 in
set_option maxRecDepth 100000 in
theorem c_X7_build (l : Launch) (X : mp_X) (G : mp_G) (A : Nat → Prop) (M : mp_M) (bq : Nat) (l0 : Nat) (l1 : Nat) (l2 : Nat) (l3 : Nat) (tp : Nat) (tz : Nat) (td : Int32) (fl : Int32) (tt : Nat → Int32) (pl : Nat) (ra : Nat → Nat) (Rg : Nat → rg_R) (pn : Nat) (pa : Nat → Nat) (pf : Nat → Int32) (pk : Nat → Int32) (zc : Nat → Nat) (zz : Nat → Nat → zr) (ap : Nat) (aa : Nat → Nat) (dq : Nat → Nat) (av : Nat → Nat → Int32) (dv : Nat → ds_D) (nh : Nat) (ah : Nat → Nat) (vh : Nat → Nat → Int32) (hB : BN G X M bq l0 l1 l2 l3 tp tz td fl tt pl ra Rg pn pa pf pk zc zz ap aa dq av dv nh ah vh) (q : Int32) : mp_Met l X G A yX7_build wsX7_build rmX7_build ([.ref bq, .int q] : List Value) M (fun r M1 => (∃ i, i < ap ∧ q = nI i ∧ r = some (.int (cs_bldR (av i) td)) ∧ BN G X M1 bq l0 l1 l2 l3 tp tz td fl tt pl ra Rg pn pa pf pk zc zz ap aa dq (va_up av i (cs_bldV (av i) td)) dv nh ah vh ∧ (∀ k : mp_N, k.1 = 9 → M1 k = M k)) ∨ (¬ isAt q ap ∧ r = some (.int (-1)) ∧ M1 = M)) 0 0 := by
  refine mp_ofW (cc := cX7_build) (maxL := 3) (ret := (some .int)) (by decide) rfl (Nat.le_of_ble_eq_true rfl) ?_
  intro p e s m below meth c ls hx hb hr hts hown hlocks hnm hml hC hM hS hl
  have hl : lv_has ls 3 [(0, .ref bq), (1, .int q)] := hl
  have hown : s.vm.findClass RX7 = some m.cls := hown
  have hin_wsX70 : ∀ w ∈ wsX70, w ∈ wsX7_build := fun _ h => List.mem_cons_of_mem _ (List.mem_append_left _ (List.mem_append_left _ (List.mem_append_right _ h)))
  have fl_40 := hts (.fieldLink RX7 40 "PlanningBench" "today" "I") (List.mem_of_getElem? (i := 1) rfl)
  have hb9 := hB.b
  refine lv_aload_n hx hb dX7_build_0 rfl (lv_at hl 0 rfl) ?_
  refine lv_iload_n hx hb dX7_build_1 rfl (lv_at hl 1 rfl) ?_
  by_cases hq : isAt q ap
  · skip
    obtain ⟨i, hi, ei⟩ := id hq
    have ni : q.toNatClampNeg = i := by rw [ei]; exact nI_clamp (by omega)
    refine mp_top (nI i) ei ?_
    refine mp_callr (va_runV (As := [.int (nI i)]) (rest := []) ⟨hx, hb, hml, hown, hts⟩ (c_X7_applicationAt l X G A (M) bq l0 l1 l2 l3 tp tz td fl tt pl ra Rg pn pa pf pk zc zz ap aa dq av dv nh ah vh hB i hi) (cwV 1 hts gX7_build_X7_applicationAt rfl rfl rfl (by decide +kernel) ⟨Nat.le_of_ble_eq_true rfl, Nat.le_of_ble_eq_true rfl⟩) (mp_preV hC hS hM (mp_recv hC.1 hM hB.O (r := (RX7, TX7, 9)) rfl)) rfl rfl hl.1 rfl (lv_room (Nat.le_of_ble_eq_true rfl)) dX7_build_2 ⟨Nat.le_of_ble_eq_true rfl, Nat.le_of_ble_eq_true rfl⟩) hS (fun H locs hM hS => ?_)
    refine lv_astore_n (lv' := [(2, .ref (aa i)), (0, .ref bq), (1, .int q)]) hx hb dX7_build_5 rfl hl (by decide) rfl (fun ls hl => ?_)
    refine lv_aload_n hx hb dX7_build_6 rfl (lv_at hl 0 rfl) ?_
    refine lv_ifnonnull (tgt := 14) hx hb dX7_build_7 (by decide) ?_
    refine lv_aload_n hx hb dX7_build_14 rfl (lv_at hl 0 rfl) ?_
    refine lv_aload_n hx hb dX7_build_15 rfl (lv_at hl 1 rfl) ?_
    refine va_get (D := G.1) (C := RX7) (T := TX7) (N := 9) (ci := 8) hx hb hts hin_wsX70 hown hC.1 (hM.one hB.O) 0 rfl rfl 7 (by decide) fl_40 (fun _ z => z) rfl dX7_build_16 ?_
    refine mp_calli (va_runV (As := [.int td]) (rest := []) ⟨hx, hb, hml, hown, hts⟩ (c_X0_goOn l X G A (M) (aa i) (dq i) (av i) (1, i, 0) (hB.A (i := i) (by omega)) td) (cwV 1 hts gX7_build_X0_goOn rfl rfl rfl (by decide +kernel) ⟨Nat.le_of_ble_eq_true rfl, Nat.le_of_ble_eq_true rfl⟩) (mp_preV hC hS hM (mp_recv hC.1 hM (hB.A (i := i) (by omega)) (r := (RX0, TX0, 12)) rfl)) rfl rfl hl.1 rfl (lv_room (Nat.le_of_ble_eq_true rfl)) dX7_build_19 ⟨Nat.le_of_ble_eq_true rfl, Nat.le_of_ble_eq_true rfl⟩) hS (fun H locs hM hS => ?_)
    exact mp_iret hx hb hr hlocks (Nat.le_of_ble_eq_true rfl) (Nat.le_of_ble_eq_true rfl) hM hS dX7_build_22 (Or.inl ⟨i, hi, ei, rfl, hB.app hi _, fr9 (by simp)⟩)
  · skip
    refine mp_calln (va_runV (As := [.int q]) (rest := []) ⟨hx, hb, hml, hown, hts⟩ (c_X7_applicationAt_n l X G A (M) bq l0 l1 l2 l3 tp tz td fl tt pl ra Rg pn pa pf pk zc zz ap aa dq av dv nh ah vh hB q hq) (cwV 1 hts gX7_build_X7_applicationAt rfl rfl rfl (by decide +kernel) ⟨Nat.le_of_ble_eq_true rfl, Nat.le_of_ble_eq_true rfl⟩) (mp_preV hC hS hM (mp_recv hC.1 hM hB.O (r := (RX7, TX7, 9)) rfl)) rfl rfl hl.1 rfl (lv_room (Nat.le_of_ble_eq_true rfl)) dX7_build_2 ⟨Nat.le_of_ble_eq_true rfl, Nat.le_of_ble_eq_true rfl⟩) hS (fun H locs hM hS => ?_)
    refine lv_astore_nN (lv' := [(2, .null), (0, .ref bq), (1, .int q)]) hx hb dX7_build_5 rfl hl (by decide) rfl (fun ls hl => ?_)
    refine lv_aload_nN hx hb dX7_build_6 rfl (lv_at hl 0 rfl) ?_
    refine lv_ifnonnullN hx hb dX7_build_7 ?_
    refine lv_iconst (v := (-1 : Int32)) hx hb dX7_build_10 (by decide) ?_
    refine lv_goto (tgt := 22) hx hb dX7_build_11 (by decide) ?_
    exact mp_iret hx hb hr hlocks (Nat.le_of_ble_eq_true rfl) (Nat.le_of_ble_eq_true rfl) hM hS dX7_build_22 (Or.inr ⟨hq, rfl, rfl⟩)
abbrev rmX7_raze : Room := { frames := 4, cells := 0, slots := 0, locals := 85 }
set_option maxHeartbeats 4000000 in
set_option maxRecDepth 100000 in
theorem c_X7_raze (l : Launch) (X : mp_X) (G : mp_G) (A : Nat → Prop) (M : mp_M) (bq : Nat) (l0 : Nat) (l1 : Nat) (l2 : Nat) (l3 : Nat) (tp : Nat) (tz : Nat) (td : Int32) (fl : Int32) (tt : Nat → Int32) (pl : Nat) (ra : Nat → Nat) (Rg : Nat → rg_R) (pn : Nat) (pa : Nat → Nat) (pf : Nat → Int32) (pk : Nat → Int32) (zc : Nat → Nat) (zz : Nat → Nat → zr) (ap : Nat) (aa : Nat → Nat) (dq : Nat → Nat) (av : Nat → Nat → Int32) (dv : Nat → ds_D) (nh : Nat) (ah : Nat → Nat) (vh : Nat → Nat → Int32) (hB : BN G X M bq l0 l1 l2 l3 tp tz td fl tt pl ra Rg pn pa pf pk zc zz ap aa dq av dv nh ah vh) (q w : Int32) : mp_Met l X G A yX7_raze wsX7_raze rmX7_raze ([.ref bq, .int q, .int w] : List Value) M (fun r M1 => (∃ i, i < ap ∧ q = nI i ∧ w ≤ td ∧ r = some (.int (bI (pB (cs_rzP (av i) w)))) ∧ BN G X M1 bq l0 l1 l2 l3 tp tz td fl tt pl ra Rg pn pa pf pk zc zz ap aa dq (va_up av i (cs_rzV (av i) w td)) dv nh ah vh ∧ (∀ k : mp_N, k.1 = 9 → M1 k = M k)) ∨ (¬ (isAt q ap ∧ w ≤ td) ∧ r = some (.int 0) ∧ M1 = M)) 0 0 := by
  refine mp_ofW (cc := cX7_raze) (maxL := 4) (ret := (some .boolean)) (by decide) rfl (Nat.le_of_ble_eq_true rfl) ?_
  intro p e s m below meth c ls hx hb hr hts hown hlocks hnm hml hC hM hS hl
  have hl : lv_has ls 4 [(0, .ref bq), (1, .int q), (2, .int w)] := hl
  have hown : s.vm.findClass RX7 = some m.cls := hown
  have hin_wsX70 : ∀ w ∈ wsX70, w ∈ wsX7_raze := fun _ h => List.mem_cons_of_mem _ (List.mem_append_left _ (List.mem_append_left _ (List.mem_append_right _ h)))
  have fl_40 := hts (.fieldLink RX7 40 "PlanningBench" "today" "I") (List.mem_of_getElem? (i := 1) rfl)
  have hb9 := hB.b
  refine lv_aload_n hx hb dX7_raze_0 rfl (lv_at hl 0 rfl) ?_
  refine lv_iload_n hx hb dX7_raze_1 rfl (lv_at hl 1 rfl) ?_
  by_cases hq : isAt q ap
  · skip
    obtain ⟨i, hi, ei⟩ := id hq
    have ni : q.toNatClampNeg = i := by rw [ei]; exact nI_clamp (by omega)
    refine mp_top (nI i) ei ?_
    refine mp_callr (va_runV (As := [.int (nI i)]) (rest := []) ⟨hx, hb, hml, hown, hts⟩ (c_X7_applicationAt l X G A (M) bq l0 l1 l2 l3 tp tz td fl tt pl ra Rg pn pa pf pk zc zz ap aa dq av dv nh ah vh hB i hi) (cwV 1 hts gX7_raze_X7_applicationAt rfl rfl rfl (by decide +kernel) ⟨Nat.le_of_ble_eq_true rfl, Nat.le_of_ble_eq_true rfl⟩) (mp_preV hC hS hM (mp_recv hC.1 hM hB.O (r := (RX7, TX7, 9)) rfl)) rfl rfl hl.1 rfl (lv_room (Nat.le_of_ble_eq_true rfl)) dX7_raze_2 ⟨Nat.le_of_ble_eq_true rfl, Nat.le_of_ble_eq_true rfl⟩) hS (fun H locs hM hS => ?_)
    refine lv_astore_n (lv' := [(3, .ref (aa i)), (0, .ref bq), (1, .int q), (2, .int w)]) hx hb dX7_raze_5 rfl hl (by decide) rfl (fun ls hl => ?_)
    refine lv_aload_n hx hb dX7_raze_6 rfl (lv_at hl 0 rfl) ?_
    refine lv_ifnull hx hb dX7_raze_7 ?_
    refine lv_iload_n hx hb dX7_raze_10 rfl (lv_at hl 3 rfl) ?_
    refine lv_aload_n hx hb dX7_raze_11 rfl (lv_at hl 1 rfl) ?_
    refine va_get (D := G.1) (C := RX7) (T := TX7) (N := 9) (ci := 8) hx hb hts hin_wsX70 hown hC.1 (hM.one hB.O) 0 rfl rfl 7 (by decide) fl_40 (fun _ z => z) rfl dX7_raze_12 ?_
    refine lv_icmp_le (tgt := 20) hx hb dX7_raze_15 (by decide) (fun c1 => ?_) (fun c1 => ?_)
    · have c1 := c1
      refine lv_aload_n hx hb dX7_raze_20 rfl (lv_at hl 0 rfl) ?_
      refine lv_iload_n hx hb dX7_raze_21 rfl (lv_at hl 3 rfl) ?_
      refine lv_aload_n hx hb dX7_raze_22 rfl (lv_at hl 1 rfl) ?_
      refine va_get (D := G.1) (C := RX7) (T := TX7) (N := 9) (ci := 8) hx hb hts hin_wsX70 hown hC.1 (hM.one hB.O) 0 rfl rfl 7 (by decide) fl_40 (fun _ z => z) rfl dX7_raze_23 ?_
      refine mp_calli (va_runV (As := [.int w, .int td]) (rest := []) ⟨hx, hb, hml, hown, hts⟩ (c_X0_razeSince l X G A (M) (aa i) (dq i) (av i) (1, i, 0) (hB.A (i := i) (by omega)) w td) (cwV 2 hts gX7_raze_X0_razeSince rfl rfl rfl (by decide +kernel) ⟨Nat.le_of_ble_eq_true rfl, Nat.le_of_ble_eq_true rfl⟩) (mp_preV hC hS hM (mp_recv hC.1 hM (hB.A (i := i) (by omega)) (r := (RX0, TX0, 12)) rfl)) rfl rfl hl.1 rfl (lv_room (Nat.le_of_ble_eq_true rfl)) dX7_raze_26 ⟨Nat.le_of_ble_eq_true rfl, Nat.le_of_ble_eq_true rfl⟩) hS (fun H locs hM hS => ?_)
      exact mp_zret hx hb hr hlocks (Nat.le_of_ble_eq_true rfl) (Nat.le_of_ble_eq_true rfl) hM hS dX7_raze_29 (bI_nar _) (Or.inl ⟨i, hi, ei, c1, rfl, hB.app hi _, fr9 (by simp)⟩)
    · have c1 := c1
      refine lv_iconst (v := (0 : Int32)) hx hb dX7_raze_18 (by decide) ?_
      exact mp_zret hx hb hr hlocks (Nat.le_of_ble_eq_true rfl) (Nat.le_of_ble_eq_true rfl) hM hS dX7_raze_19 (by first | rfl | exact bI_nar _) (Or.inr ⟨fun z => c1 z.2, rfl, rfl⟩)
  · skip
    refine mp_calln (va_runV (As := [.int q]) (rest := []) ⟨hx, hb, hml, hown, hts⟩ (c_X7_applicationAt_n l X G A (M) bq l0 l1 l2 l3 tp tz td fl tt pl ra Rg pn pa pf pk zc zz ap aa dq av dv nh ah vh hB q hq) (cwV 1 hts gX7_raze_X7_applicationAt rfl rfl rfl (by decide +kernel) ⟨Nat.le_of_ble_eq_true rfl, Nat.le_of_ble_eq_true rfl⟩) (mp_preV hC hS hM (mp_recv hC.1 hM hB.O (r := (RX7, TX7, 9)) rfl)) rfl rfl hl.1 rfl (lv_room (Nat.le_of_ble_eq_true rfl)) dX7_raze_2 ⟨Nat.le_of_ble_eq_true rfl, Nat.le_of_ble_eq_true rfl⟩) hS (fun H locs hM hS => ?_)
    refine lv_astore_nN (lv' := [(3, .null), (0, .ref bq), (1, .int q), (2, .int w)]) hx hb dX7_raze_5 rfl hl (by decide) rfl (fun ls hl => ?_)
    refine lv_aload_nN hx hb dX7_raze_6 rfl (lv_at hl 0 rfl) ?_
    refine lv_ifnullN (tgt := 18) hx hb dX7_raze_7 (by decide) ?_
    refine lv_iconst (v := (0 : Int32)) hx hb dX7_raze_18 (by decide) ?_
    exact mp_zret hx hb hr hlocks (Nat.le_of_ble_eq_true rfl) (Nat.le_of_ble_eq_true rfl) hM hS dX7_raze_19 (by first | rfl | exact bI_nar _) (Or.inr ⟨fun z => hq z.1, rfl, rfl⟩)
abbrev rmX7_decide : Room := { frames := 6, cells := 0, slots := 0, locals := 139 }
set_option maxHeartbeats 4000000 in
set_option maxRecDepth 100000 in
theorem c_X7_decide (l : Launch) (X : mp_X) (G : mp_G) (A : Nat → Prop) (M : mp_M) (bq : Nat) (l0 : Nat) (l1 : Nat) (l2 : Nat) (l3 : Nat) (tp : Nat) (tz : Nat) (td : Int32) (fl : Int32) (tt : Nat → Int32) (pl : Nat) (ra : Nat → Nat) (Rg : Nat → rg_R) (pn : Nat) (pa : Nat → Nat) (pf : Nat → Int32) (pk : Nat → Int32) (zc : Nat → Nat) (zz : Nat → Nat → zr) (ap : Nat) (aa : Nat → Nat) (dq : Nat → Nat) (av : Nat → Nat → Int32) (dv : Nat → ds_D) (nh : Nat) (ah : Nat → Nat) (vh : Nat → Nat → Int32) (hB : BN G X M bq l0 l1 l2 l3 tp tz td fl tt pl ra Rg pn pa pf pk zc zz ap aa dq av dv nh ah vh) (op : Nat → Nat) (hop : ∀ i, i < ap → (dv i).1 = nI (op i) ∧ op i < pl) (q : Int32) : mp_Met l X G A yX7_decide wsX7_decide rmX7_decide ([.ref bq, .int q] : List Value) M (fun r M1 => (∃ i, i < ap ∧ q = nI i ∧ (av q.toNatClampNeg 2 = 0 ∧ av q.toNatClampNeg 1 + 30 < td) ∧ r = some (.int (cs_decR (cs_rule pn pf pk zc zz ap av dv (Rg (op i)) (dv i) (av i 1) td) (av i 4))) ∧ BN G X M1 bq l0 l1 l2 l3 tp tz td fl tt pl ra Rg pn pa pf pk zc zz ap aa dq (va_up av i (cs_decV (av i) (cs_decR (cs_rule pn pf pk zc zz ap av dv (Rg (op i)) (dv i) (av i 1) td) (av i 4)) td)) dv nh ah vh ∧ (∀ k : mp_N, k.1 = 9 → M1 k = M k)) ∨ (¬ (isAt q ap ∧ av q.toNatClampNeg 2 = 0 ∧ av q.toNatClampNeg 1 + 30 < td) ∧ r = some (.int (-1)) ∧ M1 = M)) 0 0 := by
  refine mp_ofW (cc := cX7_decide) (maxL := 4) (ret := (some .int)) (by decide) rfl (Nat.le_of_ble_eq_true rfl) ?_
  intro p e s m below meth c ls hx hb hr hts hown hlocks hnm hml hC hM hS hl
  have hl : lv_has ls 4 [(0, .ref bq), (1, .int q)] := hl
  have hown : s.vm.findClass RX7 = some m.cls := hown
  have hin_wsX00 : ∀ w ∈ wsX00, w ∈ wsX7_decide := fun _ h => List.mem_cons_of_mem _ (List.mem_append_left _ (List.mem_append_left _ (List.mem_append_left _ (List.mem_append_left _ (List.mem_append_left _ (List.mem_append_left _ (List.mem_append_right _ h)))))))
  have nf_232 := hC.2.1 (.fieldLinkNest RX7 232 "PlanningBench$Application" "state" "I" "PlanningBench") (List.mem_of_getElem? (i := 21) rfl)
  have hin_wsX70 : ∀ w ∈ wsX70, w ∈ wsX7_decide := fun _ h => List.mem_cons_of_mem _ (List.mem_append_left _ (List.mem_append_left _ (List.mem_append_left _ (List.mem_append_left _ (List.mem_append_left _ (List.mem_append_right _ h))))))
  have fl_40 := hts (.fieldLink RX7 40 "PlanningBench" "today" "I") (List.mem_of_getElem? (i := 1) rfl)
  have nf_211 := hC.2.1 (.fieldLinkNest RX7 211 "PlanningBench$Application" "design" "LPlanningBench$Design;" "PlanningBench") (List.mem_of_getElem? (i := 19) rfl)
  have nf_244 := hC.2.1 (.fieldLinkNest RX7 244 "PlanningBench$Application" "day" "I" "PlanningBench") (List.mem_of_getElem? (i := 20) rfl)
  have nf_247 := hC.2.1 (.fieldLinkNest RX7 247 "PlanningBench$Application" "weight" "I" "PlanningBench") (List.mem_of_getElem? (i := 22) rfl)
  have hb9 := hB.b
  refine lv_aload_n hx hb dX7_decide_0 rfl (lv_at hl 0 rfl) ?_
  refine lv_iload_n hx hb dX7_decide_1 rfl (lv_at hl 1 rfl) ?_
  by_cases hq : isAt q ap
  · skip
    obtain ⟨i, hi, ei⟩ := id hq
    have ni : q.toNatClampNeg = i := by rw [ei]; exact nI_clamp (by omega)
    refine mp_top (nI i) ei ?_
    refine mp_callr (va_runV (As := [.int (nI i)]) (rest := []) ⟨hx, hb, hml, hown, hts⟩ (c_X7_applicationAt l X G A (M) bq l0 l1 l2 l3 tp tz td fl tt pl ra Rg pn pa pf pk zc zz ap aa dq av dv nh ah vh hB i hi) (cwV 1 hts gX7_decide_X7_applicationAt rfl rfl rfl (by decide +kernel) ⟨Nat.le_of_ble_eq_true rfl, Nat.le_of_ble_eq_true rfl⟩) (mp_preV hC hS hM (mp_recv hC.1 hM hB.O (r := (RX7, TX7, 9)) rfl)) rfl rfl hl.1 rfl (lv_room (Nat.le_of_ble_eq_true rfl)) dX7_decide_2 ⟨Nat.le_of_ble_eq_true rfl, Nat.le_of_ble_eq_true rfl⟩) hS (fun H locs hM hS => ?_)
    refine lv_astore_n (lv' := [(2, .ref (aa i)), (0, .ref bq), (1, .int q)]) hx hb dX7_decide_5 rfl hl (by decide) rfl (fun ls hl => ?_)
    refine lv_aload_n hx hb dX7_decide_6 rfl (lv_at hl 0 rfl) ?_
    refine lv_ifnull hx hb dX7_decide_7 ?_
    refine lv_aload_n hx hb dX7_decide_10 rfl (lv_at hl 0 rfl) ?_
    refine va_getN (D := G.1) (C := RX0) (T := TX0) (N := 12) (ci := 1) hx hb hts hin_wsX00 hown hC.1 (hM.one (hB.A (i := i) (by omega))) 0 rfl rfl 2 (by decide) (va_Nw.use rfl nf_232) (fun _ z => z) rfl dX7_decide_11 ?_
    refine lv_if_ne (tgt := 28) hx hb dX7_decide_14 (by decide) (fun c1 => ?_) (fun c1 => ?_)
    · have c1 := c1
      refine lv_iconst (v := (-1 : Int32)) hx hb dX7_decide_28 (by decide) ?_
      exact mp_iret hx hb hr hlocks (Nat.le_of_ble_eq_true rfl) (Nat.le_of_ble_eq_true rfl) hM hS dX7_decide_29 (Or.inr ⟨fun z => by have y := z.2; rw [ni] at y; exact c1 y.1, rfl, rfl⟩)
    · have c1 := c1
      refine lv_aload_n hx hb dX7_decide_17 rfl (lv_at hl 1 rfl) ?_
      refine va_get (D := G.1) (C := RX7) (T := TX7) (N := 9) (ci := 8) hx hb hts hin_wsX70 hown hC.1 (hM.one hB.O) 0 rfl rfl 7 (by decide) fl_40 (fun _ z => z) rfl dX7_decide_18 ?_
      refine lv_aload_n hx hb dX7_decide_21 rfl (lv_at hl 0 rfl) ?_
      refine mp_calli (va_runV (As := []) (rest := [.int td]) ⟨hx, hb, hml, hown, hts⟩ (c_X0_lastDayToObject l X G A (M) (aa i) (dq i) (av i) ⟨_, (hB.A (i := i) (by omega))⟩) (cwV 0 hts gX7_decide_X0_lastDayToObject rfl rfl rfl (by decide +kernel) ⟨Nat.le_of_ble_eq_true rfl, Nat.le_of_ble_eq_true rfl⟩) (mp_preV hC hS hM (mp_recv hC.1 hM (hB.A (i := i) (by omega)) (r := (RX0, TX0, 12)) rfl)) rfl rfl hl.1 rfl (lv_room (Nat.le_of_ble_eq_true rfl)) dX7_decide_22 ⟨Nat.le_of_ble_eq_true rfl, Nat.le_of_ble_eq_true rfl⟩) hS (fun H locs hM hS => ?_)
      refine lv_icmp_gt (tgt := 30) hx hb dX7_decide_25 (by decide) (fun c3 => ?_) (fun c3 => ?_)
      · have c3 := c3
        refine lv_aload_n hx hb dX7_decide_30 rfl (lv_at hl 1 rfl) ?_
        refine lv_aload_n hx hb dX7_decide_31 rfl (lv_at hl 0 rfl) ?_
        refine va_getN (D := G.1) (C := RX0) (T := TX0) (N := 12) (ci := 1) hx hb hts hin_wsX00 hown hC.1 (hM.one (hB.A (i := i) (by omega))) 0 rfl rfl 0 (by decide) (va_Nw.use rfl nf_211) (fun _ z => z) rfl dX7_decide_32 ?_
        refine lv_aload_n hx hb dX7_decide_35 rfl (lv_at hl 0 rfl) ?_
        refine va_getN (D := G.1) (C := RX0) (T := TX0) (N := 12) (ci := 1) hx hb hts hin_wsX00 hown hC.1 (hM.one (hB.A (i := i) (by omega))) 0 rfl rfl 1 (by decide) (va_Nw.use rfl nf_244) (fun _ z => z) rfl dX7_decide_36 ?_
        refine lv_aload_n hx hb dX7_decide_39 rfl (lv_at hl 1 rfl) ?_
        refine va_get (D := G.1) (C := RX7) (T := TX7) (N := 9) (ci := 8) hx hb hts hin_wsX70 hown hC.1 (hM.one hB.O) 0 rfl rfl 7 (by decide) fl_40 (fun _ z => z) rfl dX7_decide_40 ?_
        refine mp_calli (va_runV (As := [.ref (dq i), .int (av i 1), .int td]) (rest := []) ⟨hx, hb, hml, hown, hts⟩ (c_X7_ruleBroken l X G A (M) bq l0 l1 l2 l3 tp tz td fl tt pl ra Rg pn pa pf pk zc zz ap aa dq av dv nh ah vh hB (dq i) (dv i) ⟨_, hB.D (i := i) (by omega)⟩ (op i) (hop i hi).2 (hop i hi).1 (av i 1) td) (cwV 3 hts gX7_decide_X7_ruleBroken rfl rfl rfl (by decide +kernel) ⟨Nat.le_of_ble_eq_true rfl, Nat.le_of_ble_eq_true rfl⟩) (mp_preV hC hS hM (mp_recv hC.1 hM hB.O (r := (RX7, TX7, 9)) rfl)) rfl rfl hl.1 rfl (lv_room (Nat.le_of_ble_eq_true rfl)) dX7_decide_43 ⟨Nat.le_of_ble_eq_true rfl, Nat.le_of_ble_eq_true rfl⟩) hS (fun H locs hM hS => ?_)
        refine lv_istore_n (lv' := [(3, .int (cs_rule pn pf pk zc zz ap av dv (Rg (op i)) (dv i) (av i 1) td)), (2, .ref (aa i)), (0, .ref bq), (1, .int q)]) hx hb dX7_decide_46 rfl hl (by decide) rfl (fun ls hl => ?_)
        refine lv_iload_n hx hb dX7_decide_47 rfl (lv_at hl 0 rfl) ?_
        refine lv_if_ne (tgt := 63) hx hb dX7_decide_48 (by decide) (fun c4 => ?_) (fun c4 => ?_)
        · have c4 := c4
          refine lv_iload_n hx hb dX7_decide_63 rfl (lv_at hl 0 rfl) ?_
          refine lv_if_ne (tgt := 78) hx hb dX7_decide_64 (by decide) (fun c6 => ?_) (fun c6 => ?_)
          · have c6 := c6
            refine lv_aload_n hx hb dX7_decide_78 rfl (lv_at hl 1 rfl) ?_
            refine lv_iload_n hx hb dX7_decide_79 rfl (lv_at hl 0 rfl) ?_
            refine lv_aload_n hx hb dX7_decide_80 rfl (lv_at hl 2 rfl) ?_
            refine va_get (D := G.1) (C := RX7) (T := TX7) (N := 9) (ci := 8) hx hb hts hin_wsX70 hown hC.1 (hM.one hB.O) 0 rfl rfl 7 (by decide) fl_40 (fun _ z => z) rfl dX7_decide_81 ?_
            refine mp_callv (va_runV (As := [.int (cs_rule pn pf pk zc zz ap av dv (Rg (op i)) (dv i) (av i 1) td), .int td]) (rest := []) ⟨hx, hb, hml, hown, hts⟩ (c_X0_refuse l X G A (M) (aa i) (dq i) (av i) (1, i, 0) (hB.A (i := i) (by omega)) (cs_rule pn pf pk zc zz ap av dv (Rg (op i)) (dv i) (av i 1) td) td) (cwV 2 hts gX7_decide_X0_refuse rfl rfl rfl (by decide +kernel) ⟨Nat.le_of_ble_eq_true rfl, Nat.le_of_ble_eq_true rfl⟩) (mp_preV hC hS hM (mp_recv hC.1 hM (hB.A (i := i) (by omega)) (r := (RX0, TX0, 12)) rfl)) rfl rfl hl.1 rfl (lv_room (Nat.le_of_ble_eq_true rfl)) dX7_decide_84 ⟨Nat.le_of_ble_eq_true rfl, Nat.le_of_ble_eq_true rfl⟩) hS (fun H locs hM hS => ?_)
            refine lv_iload_n hx hb dX7_decide_87 rfl (lv_at hl 0 rfl) ?_
            have hdr : cs_decR (cs_rule pn pf pk zc zz ap av dv (Rg (op i)) (dv i) (av i 1) td) (av i 4) = cs_rule pn pf pk zc zz ap av dv (Rg (op i)) (dv i) (av i 1) td := by rw [cs_decR, pB_f (fun z => c4 z.1)]; rfl
            exact mp_iret hx hb hr hlocks (Nat.le_of_ble_eq_true rfl) (Nat.le_of_ble_eq_true rfl) hM hS dX7_decide_88 (Or.inl ⟨i, hi, ei, by rw [ni]; exact ⟨c1, c3⟩, by rw [hdr], by rw [show cs_decV (av i) (cs_decR (cs_rule pn pf pk zc zz ap av dv (Rg (op i)) (dv i) (av i 1) td) (av i 4)) td = _ from by rw [hdr, cs_decV, if_neg c4]]; exact hB.app hi _, fr9 (by simp)⟩)
          · have c6 := c6
            exact absurd c6 c4
        · have c4 := c4
          refine lv_aload_n hx hb dX7_decide_51 rfl (lv_at hl 1 rfl) ?_
          refine va_getN (D := G.1) (C := RX0) (T := TX0) (N := 12) (ci := 1) hx hb hts hin_wsX00 hown hC.1 (hM.one (hB.A (i := i) (by omega))) 0 rfl rfl 4 (by decide) (va_Nw.use rfl nf_247) (fun _ z => z) rfl dX7_decide_52 ?_
          refine lv_bipush (v := (6 : Int32)) hx hb dX7_decide_55 (by decide) ?_
          refine lv_icmp_lt (tgt := 63) hx hb dX7_decide_57 (by decide) (fun c5 => ?_) (fun c5 => ?_)
          · have c5 := c5
            refine lv_iload_n hx hb dX7_decide_63 rfl (lv_at hl 0 rfl) ?_
            refine lv_if_ne (tgt := 78) hx hb dX7_decide_64 (by decide) (fun c6 => ?_) (fun c6 => ?_)
            · have c6 := c6
              exact absurd c6 (fun z => z c4)
            · have c6 := c6
              refine lv_aload_n hx hb dX7_decide_67 rfl (lv_at hl 1 rfl) ?_
              refine lv_aload_n hx hb dX7_decide_68 rfl (lv_at hl 2 rfl) ?_
              refine va_get (D := G.1) (C := RX7) (T := TX7) (N := 9) (ci := 8) hx hb hts hin_wsX70 hown hC.1 (hM.one hB.O) 0 rfl rfl 7 (by decide) fl_40 (fun _ z => z) rfl dX7_decide_69 ?_
              refine mp_callv (va_runV (As := [.int td]) (rest := []) ⟨hx, hb, hml, hown, hts⟩ (c_X0_permit l X G A (M) (aa i) (dq i) (av i) (1, i, 0) (hB.A (i := i) (by omega)) td) (cwV 1 hts gX7_decide_X0_permit rfl rfl rfl (by decide +kernel) ⟨Nat.le_of_ble_eq_true rfl, Nat.le_of_ble_eq_true rfl⟩) (mp_preV hC hS hM (mp_recv hC.1 hM (hB.A (i := i) (by omega)) (r := (RX0, TX0, 12)) rfl)) rfl rfl hl.1 rfl (lv_room (Nat.le_of_ble_eq_true rfl)) dX7_decide_72 ⟨Nat.le_of_ble_eq_true rfl, Nat.le_of_ble_eq_true rfl⟩) hS (fun H locs hM hS => ?_)
              refine lv_goto (tgt := 87) hx hb dX7_decide_75 (by decide) ?_
              refine lv_iload_n hx hb dX7_decide_87 rfl (lv_at hl 0 rfl) ?_
              have hdr : cs_decR (cs_rule pn pf pk zc zz ap av dv (Rg (op i)) (dv i) (av i 1) td) (av i 4) = cs_rule pn pf pk zc zz ap av dv (Rg (op i)) (dv i) (av i 1) td := by rw [cs_decR, pB_f (fun z => absurd z.2 (i_nle.mpr c5))]; rfl
              exact mp_iret hx hb hr hlocks (Nat.le_of_ble_eq_true rfl) (Nat.le_of_ble_eq_true rfl) hM hS dX7_decide_88 (Or.inl ⟨i, hi, ei, by rw [ni]; exact ⟨c1, c3⟩, by rw [hdr], by rw [show cs_decV (av i) (cs_decR (cs_rule pn pf pk zc zz ap av dv (Rg (op i)) (dv i) (av i 1) td) (av i 4)) td = _ from by rw [hdr, cs_decV, if_pos c4]]; exact hB.app hi _, fr9 (by simp)⟩)
          · have c5 := c5
            refine lv_bipush (v := (9 : Int32)) hx hb dX7_decide_60 (by decide) ?_
            refine lv_istore_n (lv' := [(3, .int (9 : Int32)), (2, .ref (aa i)), (0, .ref bq), (1, .int q)]) hx hb dX7_decide_62 rfl hl (by decide) rfl (fun ls hl => ?_)
            refine lv_iload_n hx hb dX7_decide_63 rfl (lv_at hl 0 rfl) ?_
            refine lv_if_ne (tgt := 78) hx hb dX7_decide_64 (by decide) (fun c6 => ?_) (fun c6 => ?_)
            · have c6 := c6
              refine lv_aload_n hx hb dX7_decide_78 rfl (lv_at hl 1 rfl) ?_
              refine lv_iload_n hx hb dX7_decide_79 rfl (lv_at hl 0 rfl) ?_
              refine lv_aload_n hx hb dX7_decide_80 rfl (lv_at hl 2 rfl) ?_
              refine va_get (D := G.1) (C := RX7) (T := TX7) (N := 9) (ci := 8) hx hb hts hin_wsX70 hown hC.1 (hM.one hB.O) 0 rfl rfl 7 (by decide) fl_40 (fun _ z => z) rfl dX7_decide_81 ?_
              refine mp_callv (va_runV (As := [.int (9 : Int32), .int td]) (rest := []) ⟨hx, hb, hml, hown, hts⟩ (c_X0_refuse l X G A (M) (aa i) (dq i) (av i) (1, i, 0) (hB.A (i := i) (by omega)) (9 : Int32) td) (cwV 2 hts gX7_decide_X0_refuse rfl rfl rfl (by decide +kernel) ⟨Nat.le_of_ble_eq_true rfl, Nat.le_of_ble_eq_true rfl⟩) (mp_preV hC hS hM (mp_recv hC.1 hM (hB.A (i := i) (by omega)) (r := (RX0, TX0, 12)) rfl)) rfl rfl hl.1 rfl (lv_room (Nat.le_of_ble_eq_true rfl)) dX7_decide_84 ⟨Nat.le_of_ble_eq_true rfl, Nat.le_of_ble_eq_true rfl⟩) hS (fun H locs hM hS => ?_)
              refine lv_iload_n hx hb dX7_decide_87 rfl (lv_at hl 0 rfl) ?_
              have hdr : cs_decR (cs_rule pn pf pk zc zz ap av dv (Rg (op i)) (dv i) (av i 1) td) (av i 4) = (9 : Int32) := by rw [cs_decR, pB_t (show cs_rule pn pf pk zc zz ap av dv (Rg (op i)) (dv i) (av i 1) td = 0 ∧ 6 ≤ av i 4 from ⟨c4, i_nlt.mp c5⟩)]; rfl
              exact mp_iret hx hb hr hlocks (Nat.le_of_ble_eq_true rfl) (Nat.le_of_ble_eq_true rfl) hM hS dX7_decide_88 (Or.inl ⟨i, hi, ei, by rw [ni]; exact ⟨c1, c3⟩, by rw [hdr], by rw [show cs_decV (av i) (cs_decR (cs_rule pn pf pk zc zz ap av dv (Rg (op i)) (dv i) (av i 1) td) (av i 4)) td = _ from by rw [hdr, cs_decV, if_neg (by decide)]]; exact hB.app hi _, fr9 (by simp)⟩)
            · have c6 := c6
              exact absurd c6 (by decide)
      · have c3 := c3
        refine lv_iconst (v := (-1 : Int32)) hx hb dX7_decide_28 (by decide) ?_
        exact mp_iret hx hb hr hlocks (Nat.le_of_ble_eq_true rfl) (Nat.le_of_ble_eq_true rfl) hM hS dX7_decide_29 (Or.inr ⟨fun z => by have y := z.2; rw [ni] at y; exact c3 y.2, rfl, rfl⟩)
  · skip
    refine mp_calln (va_runV (As := [.int q]) (rest := []) ⟨hx, hb, hml, hown, hts⟩ (c_X7_applicationAt_n l X G A (M) bq l0 l1 l2 l3 tp tz td fl tt pl ra Rg pn pa pf pk zc zz ap aa dq av dv nh ah vh hB q hq) (cwV 1 hts gX7_decide_X7_applicationAt rfl rfl rfl (by decide +kernel) ⟨Nat.le_of_ble_eq_true rfl, Nat.le_of_ble_eq_true rfl⟩) (mp_preV hC hS hM (mp_recv hC.1 hM hB.O (r := (RX7, TX7, 9)) rfl)) rfl rfl hl.1 rfl (lv_room (Nat.le_of_ble_eq_true rfl)) dX7_decide_2 ⟨Nat.le_of_ble_eq_true rfl, Nat.le_of_ble_eq_true rfl⟩) hS (fun H locs hM hS => ?_)
    refine lv_astore_nN (lv' := [(2, .null), (0, .ref bq), (1, .int q)]) hx hb dX7_decide_5 rfl hl (by decide) rfl (fun ls hl => ?_)
    refine lv_aload_nN hx hb dX7_decide_6 rfl (lv_at hl 0 rfl) ?_
    refine lv_ifnullN (tgt := 28) hx hb dX7_decide_7 (by decide) ?_
    refine lv_iconst (v := (-1 : Int32)) hx hb dX7_decide_28 (by decide) ?_
    exact mp_iret hx hb hr hlocks (Nat.le_of_ble_eq_true rfl) (Nat.le_of_ble_eq_true rfl) hM hS dX7_decide_29 (Or.inr ⟨fun z => hq z.1, rfl, rfl⟩)
abbrev rmX7_appeal : Room := { frames := 6, cells := 0, slots := 0, locals := 139 }
set_option maxHeartbeats 4000000 in
set_option maxRecDepth 100000 in
theorem c_X7_appeal (l : Launch) (X : mp_X) (G : mp_G) (A : Nat → Prop) (M : mp_M) (bq : Nat) (l0 : Nat) (l1 : Nat) (l2 : Nat) (l3 : Nat) (tp : Nat) (tz : Nat) (td : Int32) (fl : Int32) (tt : Nat → Int32) (pl : Nat) (ra : Nat → Nat) (Rg : Nat → rg_R) (pn : Nat) (pa : Nat → Nat) (pf : Nat → Int32) (pk : Nat → Int32) (zc : Nat → Nat) (zz : Nat → Nat → zr) (ap : Nat) (aa : Nat → Nat) (dq : Nat → Nat) (av : Nat → Nat → Int32) (dv : Nat → ds_D) (nh : Nat) (ah : Nat → Nat) (vh : Nat → Nat → Int32) (hB : BN G X M bq l0 l1 l2 l3 tp tz td fl tt pl ra Rg pn pa pf pk zc zz ap aa dq av dv nh ah vh) (op : Nat → Nat) (hop : ∀ i, i < ap → (dv i).1 = nI (op i) ∧ op i < pl) (q : Int32) : mp_Met l X G A yX7_appeal wsX7_appeal rmX7_appeal ([.ref bq, .int q] : List Value) M (fun r M1 => (∃ i, i < ap ∧ q = nI i ∧ (av q.toNatClampNeg 2 = 2 ∧ av q.toNatClampNeg 9 = 0 ∧ td ≤ av q.toNatClampNeg 6 + 60) ∧ r = some (.int (cs_rule pn pf pk zc zz ap (va_up av i (upd (av i) 9 1)) dv (Rg (op i)) (dv i) (av i 1) td)) ∧ BN G X M1 bq l0 l1 l2 l3 tp tz td fl tt pl ra Rg pn pa pf pk zc zz ap aa dq (va_up av i (cs_aplV (av i) (cs_rule pn pf pk zc zz ap (va_up av i (upd (av i) 9 1)) dv (Rg (op i)) (dv i) (av i 1) td) td)) dv nh ah vh ∧ (∀ k : mp_N, k.1 = 9 → M1 k = M k)) ∨ (¬ (isAt q ap ∧ av q.toNatClampNeg 2 = 2 ∧ av q.toNatClampNeg 9 = 0 ∧ td ≤ av q.toNatClampNeg 6 + 60) ∧ r = some (.int (-1)) ∧ M1 = M)) 0 0 := by
  refine mp_ofW (cc := cX7_appeal) (maxL := 4) (ret := (some .int)) (by decide) rfl (Nat.le_of_ble_eq_true rfl) ?_
  intro p e s m below meth c ls hx hb hr hts hown hlocks hnm hml hC hM hS hl
  have hl : lv_has ls 4 [(0, .ref bq), (1, .int q)] := hl
  have hown : s.vm.findClass RX7 = some m.cls := hown
  have hin_wsX70 : ∀ w ∈ wsX70, w ∈ wsX7_appeal := fun _ h => List.mem_cons_of_mem _ (List.mem_append_left _ (List.mem_append_left _ (List.mem_append_left _ (List.mem_append_left _ (List.mem_append_left _ (List.mem_append_left _ (List.mem_append_right _ h)))))))
  have fl_40 := hts (.fieldLink RX7 40 "PlanningBench" "today" "I") (List.mem_of_getElem? (i := 1) rfl)
  have hin_wsX00 : ∀ w ∈ wsX00, w ∈ wsX7_appeal := fun _ h => List.mem_cons_of_mem _ (List.mem_append_left _ (List.mem_append_left _ (List.mem_append_left _ (List.mem_append_left _ (List.mem_append_left _ (List.mem_append_right _ h))))))
  have nf_262 := hC.2.1 (.fieldLinkNest RX7 262 "PlanningBench$Application" "appealed" "Z" "PlanningBench") (List.mem_of_getElem? (i := 23) rfl)
  have nf_211 := hC.2.1 (.fieldLinkNest RX7 211 "PlanningBench$Application" "design" "LPlanningBench$Design;" "PlanningBench") (List.mem_of_getElem? (i := 19) rfl)
  have nf_244 := hC.2.1 (.fieldLinkNest RX7 244 "PlanningBench$Application" "day" "I" "PlanningBench") (List.mem_of_getElem? (i := 20) rfl)
  have hb9 := hB.b
  refine lv_aload_n hx hb dX7_appeal_0 rfl (lv_at hl 0 rfl) ?_
  refine lv_iload_n hx hb dX7_appeal_1 rfl (lv_at hl 1 rfl) ?_
  by_cases hq : isAt q ap
  · skip
    obtain ⟨i, hi, ei⟩ := id hq
    have ni : q.toNatClampNeg = i := by rw [ei]; exact nI_clamp (by omega)
    refine mp_top (nI i) ei ?_
    refine mp_callr (va_runV (As := [.int (nI i)]) (rest := []) ⟨hx, hb, hml, hown, hts⟩ (c_X7_applicationAt l X G A (M) bq l0 l1 l2 l3 tp tz td fl tt pl ra Rg pn pa pf pk zc zz ap aa dq av dv nh ah vh hB i hi) (cwV 1 hts gX7_appeal_X7_applicationAt rfl rfl rfl (by decide +kernel) ⟨Nat.le_of_ble_eq_true rfl, Nat.le_of_ble_eq_true rfl⟩) (mp_preV hC hS hM (mp_recv hC.1 hM hB.O (r := (RX7, TX7, 9)) rfl)) rfl rfl hl.1 rfl (lv_room (Nat.le_of_ble_eq_true rfl)) dX7_appeal_2 ⟨Nat.le_of_ble_eq_true rfl, Nat.le_of_ble_eq_true rfl⟩) hS (fun H locs hM hS => ?_)
    refine lv_astore_n (lv' := [(2, .ref (aa i)), (0, .ref bq), (1, .int q)]) hx hb dX7_appeal_5 rfl hl (by decide) rfl (fun ls hl => ?_)
    refine lv_aload_n hx hb dX7_appeal_6 rfl (lv_at hl 0 rfl) ?_
    refine lv_ifnull hx hb dX7_appeal_7 ?_
    refine lv_aload_n hx hb dX7_appeal_10 rfl (lv_at hl 0 rfl) ?_
    refine lv_aload_n hx hb dX7_appeal_11 rfl (lv_at hl 1 rfl) ?_
    refine va_get (D := G.1) (C := RX7) (T := TX7) (N := 9) (ci := 8) hx hb hts hin_wsX70 hown hC.1 (hM.one hB.O) 0 rfl rfl 7 (by decide) fl_40 (fun _ z => z) rfl dX7_appeal_12 ?_
    refine mp_calli (va_runV (As := [.int td]) (rest := []) ⟨hx, hb, hml, hown, hts⟩ (c_X0_mayBeAppealed l X G A (M) (aa i) (dq i) (av i) ⟨_, (hB.A (i := i) (by omega))⟩ td) (cwV 1 hts gX7_appeal_X0_mayBeAppealed rfl rfl rfl (by decide +kernel) ⟨Nat.le_of_ble_eq_true rfl, Nat.le_of_ble_eq_true rfl⟩) (mp_preV hC hS hM (mp_recv hC.1 hM (hB.A (i := i) (by omega)) (r := (RX0, TX0, 12)) rfl)) rfl rfl hl.1 rfl (lv_room (Nat.le_of_ble_eq_true rfl)) dX7_appeal_15 ⟨Nat.le_of_ble_eq_true rfl, Nat.le_of_ble_eq_true rfl⟩) hS (fun H locs hM hS => ?_)
    refine lv_if_ne (tgt := 23) hx hb dX7_appeal_18 (by decide) (fun c1 => ?_) (fun c1 => ?_)
    · have c1 : (pB ((av i) 2 = 2 ∧ (av i) 9 = 0 ∧ td ≤ (av i) 6 + 60)) = true := bI_1.mp c1
      refine lv_aload_n hx hb dX7_appeal_23 rfl (lv_at hl 0 rfl) ?_
      refine lv_iconst (v := (1 : Int32)) hx hb dX7_appeal_24 (by decide) ?_
      refine mp_putN (D := G.1) (C := RX0) (T := TX0) (N := 12) (ci := 1) hx hb hts hin_wsX00 tyX0 tyX0_ok nmX0 hown hC.1 hM hS (hB.A (i := i) (by omega)) rfl 9 (by decide) (va_Nw.use rfl nf_262) (fun _ z => z) rfl rfl rfl (Nat.le_of_ble_eq_true rfl) dX7_appeal_25 (fs' := ap_fs (dq i) (upd (av i) 9 1)) rfl (fun H locs hM hS => ?_)
      have hB2 : BN G X (mp_set M (1, i, 0) (aa i, .inr (1, ap_fs (dq i) (upd (av i) 9 1)))) bq l0 l1 l2 l3 tp tz td fl tt pl ra Rg pn pa pf pk zc zz ap aa dq (va_up av i (upd (av i) 9 1)) dv nh ah vh := hB.app hi _
      refine lv_aload_n hx hb dX7_appeal_28 rfl (lv_at hl 1 rfl) ?_
      refine lv_aload_n hx hb dX7_appeal_29 rfl (lv_at hl 0 rfl) ?_
      refine va_getN (D := G.1) (C := RX0) (T := TX0) (N := 12) (ci := 1) hx hb hts hin_wsX00 hown hC.1 (hM.one (mp_set_s _ _ _)) 0 rfl rfl 0 (by decide) (va_Nw.use rfl nf_211) (fun _ z => z) rfl dX7_appeal_30 ?_
      refine lv_aload_n hx hb dX7_appeal_33 rfl (lv_at hl 0 rfl) ?_
      refine va_getN (D := G.1) (C := RX0) (T := TX0) (N := 12) (ci := 1) hx hb hts hin_wsX00 hown hC.1 (hM.one (mp_set_s _ _ _)) 0 rfl rfl 1 (by decide) (va_Nw.use rfl nf_244) (fun _ z => z) rfl dX7_appeal_34 ?_
      refine lv_aload_n hx hb dX7_appeal_37 rfl (lv_at hl 1 rfl) ?_
      refine va_get (D := G.1) (C := RX7) (T := TX7) (N := 9) (ci := 8) hx hb hts hin_wsX70 hown hC.1 (hM.one hB2.O) 0 rfl rfl 7 (by decide) fl_40 (fun _ z => z) rfl dX7_appeal_38 ?_
      refine mp_calli (va_runV (As := [.ref (dq i), .int (av i 1), .int td]) (rest := []) ⟨hx, hb, hml, hown, hts⟩ (c_X7_ruleBroken l X G A (mp_set M (1, i, 0) (aa i, .inr (1, ap_fs (dq i) (upd (av i) 9 1)))) bq l0 l1 l2 l3 tp tz td fl tt pl ra Rg pn pa pf pk zc zz ap aa dq (va_up av i (upd (av i) 9 1)) dv nh ah vh hB2 (dq i) (dv i) ⟨_, hB2.D (i := i) (by omega)⟩ (op i) (hop i hi).2 (hop i hi).1 (av i 1) td) (cwV 3 hts gX7_appeal_X7_ruleBroken rfl rfl rfl (by decide +kernel) ⟨Nat.le_of_ble_eq_true rfl, Nat.le_of_ble_eq_true rfl⟩) (mp_preV hC hS hM (mp_recv hC.1 hM hB2.O (r := (RX7, TX7, 9)) rfl)) rfl rfl hl.1 rfl (lv_room (Nat.le_of_ble_eq_true rfl)) dX7_appeal_41 ⟨Nat.le_of_ble_eq_true rfl, Nat.le_of_ble_eq_true rfl⟩) hS (fun H locs hM hS => ?_)
      refine lv_istore_n (lv' := [(3, .int (cs_rule pn pf pk zc zz ap (va_up av i (upd (av i) 9 1)) dv (Rg (op i)) (dv i) (av i 1) td)), (2, .ref (aa i)), (0, .ref bq), (1, .int q)]) hx hb dX7_appeal_44 rfl hl (by decide) rfl (fun ls hl => ?_)
      refine lv_iload_n hx hb dX7_appeal_45 rfl (lv_at hl 0 rfl) ?_
      refine lv_if_ne (tgt := 57) hx hb dX7_appeal_46 (by decide) (fun c3 => ?_) (fun c3 => ?_)
      · have c3 := c3
        refine lv_iload_n hx hb dX7_appeal_57 rfl (lv_at hl 0 rfl) ?_
        exact mp_iret hx hb hr hlocks (Nat.le_of_ble_eq_true rfl) (Nat.le_of_ble_eq_true rfl) hM hS dX7_appeal_58 (Or.inl ⟨i, hi, ei, by rw [ni]; exact pB_iff.mp c1, rfl, by rw [cs_aplV, if_neg c3]; exact hB.app hi _, fr9 (by simp)⟩)
      · have c3 := c3
        refine lv_aload_n hx hb dX7_appeal_49 rfl (lv_at hl 1 rfl) ?_
        refine lv_aload_n hx hb dX7_appeal_50 rfl (lv_at hl 2 rfl) ?_
        refine va_get (D := G.1) (C := RX7) (T := TX7) (N := 9) (ci := 8) hx hb hts hin_wsX70 hown hC.1 (hM.one hB2.O) 0 rfl rfl 7 (by decide) fl_40 (fun _ z => z) rfl dX7_appeal_51 ?_
        refine mp_callv (va_runV (As := [.int td]) (rest := []) ⟨hx, hb, hml, hown, hts⟩ (c_X0_permit l X G A (mp_set M (1, i, 0) (aa i, .inr (1, ap_fs (dq i) (upd (av i) 9 1)))) (aa i) (dq i) (upd (av i) 9 1) (1, i, 0) (mp_set_s _ _ _) td) (cwV 1 hts gX7_appeal_X0_permit rfl rfl rfl (by decide +kernel) ⟨Nat.le_of_ble_eq_true rfl, Nat.le_of_ble_eq_true rfl⟩) (mp_preV hC hS hM (mp_recv hC.1 hM (mp_set_s _ _ _) (r := (RX0, TX0, 12)) rfl)) rfl rfl hl.1 rfl (lv_room (Nat.le_of_ble_eq_true rfl)) dX7_appeal_54 ⟨Nat.le_of_ble_eq_true rfl, Nat.le_of_ble_eq_true rfl⟩) hS (fun H locs hM hS => ?_)
        rw [mp_set_set] at hM
        refine lv_iload_n hx hb dX7_appeal_57 rfl (lv_at hl 0 rfl) ?_
        exact mp_iret hx hb hr hlocks (Nat.le_of_ble_eq_true rfl) (Nat.le_of_ble_eq_true rfl) hM hS dX7_appeal_58 (Or.inl ⟨i, hi, ei, by rw [ni]; exact pB_iff.mp c1, rfl, by rw [cs_aplV, if_pos c3]; exact hB.app hi _, fr9 (by simp)⟩)
    · have c1 : (pB ((av i) 2 = 2 ∧ (av i) 9 = 0 ∧ td ≤ (av i) 6 + 60)) = false := bI_0.mp c1
      refine lv_iconst (v := (-1 : Int32)) hx hb dX7_appeal_21 (by decide) ?_
      exact mp_iret hx hb hr hlocks (Nat.le_of_ble_eq_true rfl) (Nat.le_of_ble_eq_true rfl) hM hS dX7_appeal_22 (Or.inr ⟨fun z => by have y := z.2; rw [ni] at y; exact pB_not.mp c1 y, rfl, rfl⟩)
  · skip
    refine mp_calln (va_runV (As := [.int q]) (rest := []) ⟨hx, hb, hml, hown, hts⟩ (c_X7_applicationAt_n l X G A (M) bq l0 l1 l2 l3 tp tz td fl tt pl ra Rg pn pa pf pk zc zz ap aa dq av dv nh ah vh hB q hq) (cwV 1 hts gX7_appeal_X7_applicationAt rfl rfl rfl (by decide +kernel) ⟨Nat.le_of_ble_eq_true rfl, Nat.le_of_ble_eq_true rfl⟩) (mp_preV hC hS hM (mp_recv hC.1 hM hB.O (r := (RX7, TX7, 9)) rfl)) rfl rfl hl.1 rfl (lv_room (Nat.le_of_ble_eq_true rfl)) dX7_appeal_2 ⟨Nat.le_of_ble_eq_true rfl, Nat.le_of_ble_eq_true rfl⟩) hS (fun H locs hM hS => ?_)
    refine lv_astore_nN (lv' := [(2, .null), (0, .ref bq), (1, .int q)]) hx hb dX7_appeal_5 rfl hl (by decide) rfl (fun ls hl => ?_)
    refine lv_aload_nN hx hb dX7_appeal_6 rfl (lv_at hl 0 rfl) ?_
    refine lv_ifnullN (tgt := 21) hx hb dX7_appeal_7 (by decide) ?_
    refine lv_iconst (v := (-1 : Int32)) hx hb dX7_appeal_21 (by decide) ?_
    exact mp_iret hx hb hr hlocks (Nat.le_of_ble_eq_true rfl) (Nat.le_of_ble_eq_true rfl) hM hS dX7_appeal_22 (Or.inr ⟨fun z => hq z.1, rfl, rfl⟩)
abbrev rmX7_object : Room := { frames := 4, cells := 0, slots := 0, locals := 112 }
set_option maxHeartbeats 4000000 in
set_option maxRecDepth 100000 in
theorem c_X7_object (l : Launch) (X : mp_X) (G : mp_G) (A : Nat → Prop) (M : mp_M) (bq : Nat) (l0 : Nat) (l1 : Nat) (l2 : Nat) (l3 : Nat) (tp : Nat) (tz : Nat) (td : Int32) (fl : Int32) (tt : Nat → Int32) (pl : Nat) (ra : Nat → Nat) (Rg : Nat → rg_R) (pn : Nat) (pa : Nat → Nat) (pf : Nat → Int32) (pk : Nat → Int32) (zc : Nat → Nat) (zz : Nat → Nat → zr) (ap : Nat) (aa : Nat → Nat) (dq : Nat → Nat) (av : Nat → Nat → Int32) (dv : Nat → ds_D) (nh : Nat) (ah : Nat → Nat) (vh : Nat → Nat → Int32) (hB : BN G X M bq l0 l1 l2 l3 tp tz td fl tt pl ra Rg pn pa pf pk zc zz ap aa dq av dv nh ah vh) (op : Nat → Nat) (hop : ∀ i, i < ap → (dv i).1 = nI (op i) ∧ op i < pl) (q1 q2 : Int32) : mp_Met l X G A yX7_object wsX7_object rmX7_object ([.ref bq, .int q1, .int q2] : List Value) M (fun r M1 => (¬ (isAt q1 ap ∧ av q1.toNatClampNeg 2 = 0 ∧ isAt q2 pl ∧ q2 ≠ (dv q1.toNatClampNeg).1) ∧ r = some (.int (-4)) ∧ M1 = M) ∨ ∃ i j, i < ap ∧ q1 = nI i ∧ j < pl ∧ q2 = nI j ∧ (av i 2 = 0 ∧ q2 ≠ (dv i).1) ∧ ((¬ (cdW (Rg (op i)) (Rg j) 20 ∨ cdW (Rg j) (Rg (op i)) 20) ∧ r = some (.int (-2)) ∧ M1 = M) ∨ ((cdW (Rg (op i)) (Rg j) 20 ∨ cdW (Rg j) (Rg (op i)) 20) ∧ av i 1 + 30 < td ∧ r = some (.int (-1)) ∧ M1 = M) ∨ ((cdW (Rg (op i)) (Rg j) 20 ∨ cdW (Rg j) (Rg (op i)) 20) ∧ td ≤ av i 1 + 30 ∧ ¬ av i 3 &&& btO q2 = 0 ∧ r = some (.int (-3)) ∧ M1 = M) ∨ ((cdW (Rg (op i)) (Rg j) 20 ∨ cdW (Rg j) (Rg (op i)) 20) ∧ td ≤ av i 1 + 30 ∧ av i 3 &&& btO q2 = 0 ∧ r = some (.int (cs_objW (Rg (op i)) (Rg j))) ∧ BN G X M1 bq l0 l1 l2 l3 tp tz td fl tt pl ra Rg pn pa pf pk zc zz ap aa dq (va_up av i (cs_objV (av i) q2 (cs_objW (Rg (op i)) (Rg j)))) dv nh ah vh ∧ (∀ k : mp_N, k.1 = 9 → M1 k = M k)))) 0 0 := by
  refine mp_ofW (cc := cX7_object) (maxL := 7) (ret := (some .int)) (by decide) rfl (Nat.le_of_ble_eq_true rfl) ?_
  intro p e s m below meth c ls hx hb hr hts hown hlocks hnm hml hC hM hS hl
  have hl : lv_has ls 7 [(0, .ref bq), (1, .int q1), (2, .int q2)] := hl
  have hown : s.vm.findClass RX7 = some m.cls := hown
  have hin_wsX00 : ∀ w ∈ wsX00, w ∈ wsX7_object := fun _ h => List.mem_cons_of_mem _ (List.mem_append_left _ (List.mem_append_left _ (List.mem_append_left _ (List.mem_append_left _ (List.mem_append_right _ h)))))
  have nf_232 := hC.2.1 (.fieldLinkNest RX7 232 "PlanningBench$Application" "state" "I" "PlanningBench") (List.mem_of_getElem? (i := 21) rfl)
  have nf_211 := hC.2.1 (.fieldLinkNest RX7 211 "PlanningBench$Application" "design" "LPlanningBench$Design;" "PlanningBench") (List.mem_of_getElem? (i := 19) rfl)
  have hin_wsX10 : ∀ w ∈ wsX10, w ∈ wsX7_object := fun _ h => List.mem_cons_of_mem _ (List.mem_append_left _ (List.mem_append_left _ (List.mem_append_left _ (List.mem_append_right _ h))))
  have nf_161 := hC.2.1 (.fieldLinkNest RX7 161 "PlanningBench$Design" "plot" "I" "PlanningBench") (List.mem_of_getElem? (i := 12) rfl)
  have hin_wsX70 : ∀ w ∈ wsX70, w ∈ wsX7_object := fun _ h => List.mem_cons_of_mem _ (List.mem_append_left _ (List.mem_append_left _ (List.mem_append_right _ h)))
  have fl_40 := hts (.fieldLink RX7 40 "PlanningBench" "today" "I") (List.mem_of_getElem? (i := 1) rfl)
  have hb9 := hB.b
  refine lv_aload_n hx hb dX7_object_0 rfl (lv_at hl 0 rfl) ?_
  refine lv_iload_n hx hb dX7_object_1 rfl (lv_at hl 1 rfl) ?_
  by_cases hq1 : isAt q1 ap
  · skip
    obtain ⟨i, hi, ei⟩ := id hq1
    have ni : q1.toNatClampNeg = i := by rw [ei]; exact nI_clamp (by omega)
    refine mp_top (nI i) ei ?_
    refine mp_callr (va_runV (As := [.int (nI i)]) (rest := []) ⟨hx, hb, hml, hown, hts⟩ (c_X7_applicationAt l X G A (M) bq l0 l1 l2 l3 tp tz td fl tt pl ra Rg pn pa pf pk zc zz ap aa dq av dv nh ah vh hB i hi) (cwV 1 hts gX7_object_X7_applicationAt rfl rfl rfl (by decide +kernel) ⟨Nat.le_of_ble_eq_true rfl, Nat.le_of_ble_eq_true rfl⟩) (mp_preV hC hS hM (mp_recv hC.1 hM hB.O (r := (RX7, TX7, 9)) rfl)) rfl rfl hl.1 rfl (lv_room (Nat.le_of_ble_eq_true rfl)) dX7_object_2 ⟨Nat.le_of_ble_eq_true rfl, Nat.le_of_ble_eq_true rfl⟩) hS (fun H locs hM hS => ?_)
    refine lv_astore_n (lv' := [(3, .ref (aa i)), (0, .ref bq), (1, .int q1), (2, .int q2)]) hx hb dX7_object_5 rfl hl (by decide) rfl (fun ls hl => ?_)
    refine lv_aload_n hx hb dX7_object_6 rfl (lv_at hl 1 rfl) ?_
    refine lv_iload_n hx hb dX7_object_7 rfl (lv_at hl 3 rfl) ?_
    by_cases hq2 : isAt q2 pl
    · skip
      obtain ⟨j, hj, ej⟩ := id hq2
      have nj : q2.toNatClampNeg = j := by rw [ej]; exact nI_clamp (by omega)
      refine mp_top (nI j) ej ?_
      refine mp_callr (va_runV (As := [.int (nI j)]) (rest := []) ⟨hx, hb, hml, hown, hts⟩ (c_X7_ringAt l X G A (M) bq l0 l1 l2 l3 tp tz td fl tt pl ra Rg pn pa pf pk zc zz ap aa dq av dv nh ah vh hB j hj) (cwV 1 hts gX7_object_X7_ringAt rfl rfl rfl (by decide +kernel) ⟨Nat.le_of_ble_eq_true rfl, Nat.le_of_ble_eq_true rfl⟩) (mp_preV hC hS hM (mp_recv hC.1 hM hB.O (r := (RX7, TX7, 9)) rfl)) rfl rfl hl.1 rfl (lv_room (Nat.le_of_ble_eq_true rfl)) dX7_object_8 ⟨Nat.le_of_ble_eq_true rfl, Nat.le_of_ble_eq_true rfl⟩) hS (fun H locs hM hS => ?_)
      obtain ⟨ax_j, ay_j, hR_j, hX_j, hY_j, hs_j⟩ := hB.R (i := j) (by omega)
      refine lv_astore (lv' := [(4, .ref (ra j)), (3, .ref (aa i)), (0, .ref bq), (1, .int q1), (2, .int q2)]) hx hb dX7_object_11 hl (by decide) rfl (fun ls hl => ?_)
      refine lv_aload_n hx hb dX7_object_13 rfl (lv_at hl 1 rfl) ?_
      refine lv_ifnull hx hb dX7_object_14 ?_
      refine lv_aload_n hx hb dX7_object_17 rfl (lv_at hl 1 rfl) ?_
      refine va_getN (D := G.1) (C := RX0) (T := TX0) (N := 12) (ci := 1) hx hb hts hin_wsX00 hown hC.1 (hM.one (hB.A (i := i) (by omega))) 0 rfl rfl 2 (by decide) (va_Nw.use rfl nf_232) (fun _ z => z) rfl dX7_object_18 ?_
      refine lv_if_ne (tgt := 40) hx hb dX7_object_21 (by decide) (fun c1 => ?_) (fun c1 => ?_)
      · have c1 := c1
        refine lv_bipush (v := (-4 : Int32)) hx hb dX7_object_40 (by decide) ?_
        exact mp_iret hx hb hr hlocks (Nat.le_of_ble_eq_true rfl) (Nat.le_of_ble_eq_true rfl) hM hS dX7_object_42 (Or.inl ⟨fun z => by have y := z.2; rw [ni] at y; exact c1 y.1, rfl, rfl⟩)
      · have c1 := c1
        refine lv_aload hx hb dX7_object_24 (lv_at hl 0 rfl) ?_
        refine lv_ifnull hx hb dX7_object_26 ?_
        refine lv_iload_n hx hb dX7_object_29 rfl (lv_at hl 4 rfl) ?_
        refine lv_aload_n hx hb dX7_object_30 rfl (lv_at hl 1 rfl) ?_
        refine va_getN (D := G.1) (C := RX0) (T := TX0) (N := 12) (ci := 1) hx hb hts hin_wsX00 hown hC.1 (hM.one (hB.A (i := i) (by omega))) 0 rfl rfl 0 (by decide) (va_Nw.use rfl nf_211) (fun _ z => z) rfl dX7_object_31 ?_
        refine va_getN (D := G.1) (C := RX1) (T := TX1) (N := 7) (ci := 2) hx hb hts hin_wsX10 hown hC.1 (hM.one (hB.D (i := i) (by omega))) 0 rfl rfl 0 (by decide) (va_Nw.use rfl nf_161) (fun _ z => z) rfl dX7_object_34 ?_
        refine lv_icmp_ne (tgt := 43) hx hb dX7_object_37 (by decide) (fun c3 => ?_) (fun c3 => ?_)
        · have c3 := c3
          refine lv_aload_n hx hb dX7_object_43 rfl (lv_at hl 2 rfl) ?_
          refine lv_aload_n hx hb dX7_object_44 rfl (lv_at hl 1 rfl) ?_
          refine va_getN (D := G.1) (C := RX0) (T := TX0) (N := 12) (ci := 1) hx hb hts hin_wsX00 hown hC.1 (hM.one (hB.A (i := i) (by omega))) 0 rfl rfl 0 (by decide) (va_Nw.use rfl nf_211) (fun _ z => z) rfl dX7_object_45 ?_
          refine va_getN (D := G.1) (C := RX1) (T := TX1) (N := 7) (ci := 2) hx hb hts hin_wsX10 hown hC.1 (hM.one (hB.D (i := i) (by omega))) 0 rfl rfl 0 (by decide) (va_Nw.use rfl nf_161) (fun _ z => z) rfl dX7_object_48 ?_
          have hoi := hop i hi
          refine mp_top (nI (op i)) hoi.1 ?_
          refine mp_callr (va_runV (As := [.int (nI (op i))]) (rest := []) ⟨hx, hb, hml, hown, hts⟩ (c_X7_ringAt l X G A (M) bq l0 l1 l2 l3 tp tz td fl tt pl ra Rg pn pa pf pk zc zz ap aa dq av dv nh ah vh hB (op i) hoi.2) (cwV 1 hts gX7_object_X7_ringAt rfl rfl rfl (by decide +kernel) ⟨Nat.le_of_ble_eq_true rfl, Nat.le_of_ble_eq_true rfl⟩) (mp_preV hC hS hM (mp_recv hC.1 hM hB.O (r := (RX7, TX7, 9)) rfl)) rfl rfl hl.1 rfl (lv_room (Nat.le_of_ble_eq_true rfl)) dX7_object_51 ⟨Nat.le_of_ble_eq_true rfl, Nat.le_of_ble_eq_true rfl⟩) hS (fun H locs hM hS => ?_)
          obtain ⟨ax_o, ay_o, hR_o, hX_o, hY_o, hs_o⟩ := hB.R (i := op i) (by omega)
          refine lv_astore (lv' := [(5, .ref (ra (op i))), (4, .ref (ra j)), (3, .ref (aa i)), (0, .ref bq), (1, .int q1), (2, .int q2)]) hx hb dX7_object_54 hl (by decide) rfl (fun ls hl => ?_)
          refine lv_aload hx hb dX7_object_56 (lv_at hl 0 rfl) ?_
          refine lv_ifnull hx hb dX7_object_58 ?_
          refine lv_aload hx hb dX7_object_61 (lv_at hl 0 rfl) ?_
          refine lv_aload hx hb dX7_object_63 (lv_at hl 1 rfl) ?_
          refine lv_bipush (v := (20 : Int32)) hx hb dX7_object_65 (by decide) ?_
          refine mp_calli (va_runV (As := [.ref (ra j), .int (20 : Int32)]) (rest := []) ⟨hx, hb, hml, hown, hts⟩ (c_X5_isWithinOf l X G A (M) (ra (op i)) (Rg (op i)) (hB.Rt (i := op i) (by omega)) (hB.Rs (i := op i) (by omega)) (ra j) (Rg j) (hB.Rt (i := j) (by omega)) (hB.Rs (i := j) (by omega)) (20 : Int32)) (cwV 2 hts gX7_object_X5_isWithinOf rfl rfl rfl (by decide +kernel) ⟨Nat.le_of_ble_eq_true rfl, Nat.le_of_ble_eq_true rfl⟩) (mp_preV hC hS hM (mp_recv hC.1 hM hR_o (r := (RX5, TX5, 3)) rfl)) rfl rfl hl.1 rfl (lv_room (Nat.le_of_ble_eq_true rfl)) dX7_object_67 ⟨Nat.le_of_ble_eq_true rfl, Nat.le_of_ble_eq_true rfl⟩) hS (fun H locs hM hS => ?_)
          refine lv_if_ne (tgt := 76) hx hb dX7_object_70 (by decide) (fun c4 => ?_) (fun c4 => ?_)
          · have c4 : (pB (cdW (Rg (op i)) (Rg j) (20 : Int32) ∨ cdW (Rg j) (Rg (op i)) (20 : Int32))) = true := bI_1.mp c4
            refine lv_aload_n hx hb dX7_object_76 rfl (lv_at hl 3 rfl) ?_
            refine va_get (D := G.1) (C := RX7) (T := TX7) (N := 9) (ci := 8) hx hb hts hin_wsX70 hown hC.1 (hM.one hB.O) 0 rfl rfl 7 (by decide) fl_40 (fun _ z => z) rfl dX7_object_77 ?_
            refine lv_aload_n hx hb dX7_object_80 rfl (lv_at hl 2 rfl) ?_
            refine mp_calli (va_runV (As := []) (rest := [.int td]) ⟨hx, hb, hml, hown, hts⟩ (c_X0_lastDayToObject l X G A (M) (aa i) (dq i) (av i) ⟨_, (hB.A (i := i) (by omega))⟩) (cwV 0 hts gX7_object_X0_lastDayToObject rfl rfl rfl (by decide +kernel) ⟨Nat.le_of_ble_eq_true rfl, Nat.le_of_ble_eq_true rfl⟩) (mp_preV hC hS hM (mp_recv hC.1 hM (hB.A (i := i) (by omega)) (r := (RX0, TX0, 12)) rfl)) rfl rfl hl.1 rfl (lv_room (Nat.le_of_ble_eq_true rfl)) dX7_object_81 ⟨Nat.le_of_ble_eq_true rfl, Nat.le_of_ble_eq_true rfl⟩) hS (fun H locs hM hS => ?_)
            refine lv_icmp_le (tgt := 89) hx hb dX7_object_84 (by decide) (fun c5 => ?_) (fun c5 => ?_)
            · have c5 := c5
              refine lv_aload_n hx hb dX7_object_89 rfl (lv_at hl 2 rfl) ?_
              refine lv_iload_n hx hb dX7_object_90 rfl (lv_at hl 5 rfl) ?_
              refine mp_calli (va_runV (As := [.int q2]) (rest := []) ⟨hx, hb, hml, hown, hts⟩ (c_X0_hasObjected l X G A (M) (aa i) (dq i) (av i) ⟨_, (hB.A (i := i) (by omega))⟩ q2) (cwV 1 hts gX7_object_X0_hasObjected rfl rfl rfl (by decide +kernel) ⟨Nat.le_of_ble_eq_true rfl, Nat.le_of_ble_eq_true rfl⟩) (mp_preV hC hS hM (mp_recv hC.1 hM (hB.A (i := i) (by omega)) (r := (RX0, TX0, 12)) rfl)) rfl rfl hl.1 rfl (lv_room (Nat.le_of_ble_eq_true rfl)) dX7_object_91 ⟨Nat.le_of_ble_eq_true rfl, Nat.le_of_ble_eq_true rfl⟩) hS (fun H locs hM hS => ?_)
              refine lv_if_eq (tgt := 100) hx hb dX7_object_94 (by decide) (fun c6 => ?_) (fun c6 => ?_)
              · have c6 : (pB (¬ (av i) 3 &&& btO q2 = 0)) = false := bI_0.mp c6
                refine lv_aload hx hb dX7_object_100 (lv_at hl 0 rfl) ?_
                refine lv_aload hx hb dX7_object_102 (lv_at hl 1 rfl) ?_
                refine lv_iconst (v := (0 : Int32)) hx hb dX7_object_104 (by decide) ?_
                refine mp_calli (va_runV (As := [.ref (ra j), .int (0 : Int32)]) (rest := []) ⟨hx, hb, hml, hown, hts⟩ (c_X5_isWithinOf l X G A (M) (ra (op i)) (Rg (op i)) (hB.Rt (i := op i) (by omega)) (hB.Rs (i := op i) (by omega)) (ra j) (Rg j) (hB.Rt (i := j) (by omega)) (hB.Rs (i := j) (by omega)) (0 : Int32)) (cwV 2 hts gX7_object_X5_isWithinOf rfl rfl rfl (by decide +kernel) ⟨Nat.le_of_ble_eq_true rfl, Nat.le_of_ble_eq_true rfl⟩) (mp_preV hC hS hM (mp_recv hC.1 hM hR_o (r := (RX5, TX5, 3)) rfl)) rfl rfl hl.1 rfl (lv_room (Nat.le_of_ble_eq_true rfl)) dX7_object_105 ⟨Nat.le_of_ble_eq_true rfl, Nat.le_of_ble_eq_true rfl⟩) hS (fun H locs hM hS => ?_)
                refine lv_if_eq (tgt := 115) hx hb dX7_object_108 (by decide) (fun c7 => ?_) (fun c7 => ?_)
                · have c7 : (pB (cdW (Rg (op i)) (Rg j) (0 : Int32) ∨ cdW (Rg j) (Rg (op i)) (0 : Int32))) = false := bI_0.mp c7
                  refine lv_iconst (v := (1 : Int32)) hx hb dX7_object_115 (by decide) ?_
                  refine lv_istore (lv' := [(6, .int (1 : Int32)), (5, .ref (ra (op i))), (4, .ref (ra j)), (3, .ref (aa i)), (0, .ref bq), (1, .int q1), (2, .int q2)]) hx hb dX7_object_116 hl (by decide) rfl (fun ls hl => ?_)
                  refine lv_aload_n hx hb dX7_object_118 rfl (lv_at hl 3 rfl) ?_
                  refine lv_iload_n hx hb dX7_object_119 rfl (lv_at hl 6 rfl) ?_
                  refine lv_iload hx hb dX7_object_120 (lv_at hl 0 rfl) ?_
                  refine mp_callv (va_runV (As := [.int q2, .int (1 : Int32)]) (rest := []) ⟨hx, hb, hml, hown, hts⟩ (c_X0_addObjection l X G A (M) (aa i) (dq i) (av i) (1, i, 0) (hB.A (i := i) (by omega)) q2 (1 : Int32)) (cwV 2 hts gX7_object_X0_addObjection rfl rfl rfl (by decide +kernel) ⟨Nat.le_of_ble_eq_true rfl, Nat.le_of_ble_eq_true rfl⟩) (mp_preV hC hS hM (mp_recv hC.1 hM (hB.A (i := i) (by omega)) (r := (RX0, TX0, 12)) rfl)) rfl rfl hl.1 rfl (lv_room (Nat.le_of_ble_eq_true rfl)) dX7_object_122 ⟨Nat.le_of_ble_eq_true rfl, Nat.le_of_ble_eq_true rfl⟩) hS (fun H locs hM hS => ?_)
                  refine lv_iload hx hb dX7_object_125 (lv_at hl 0 rfl) ?_
                  have hw : cs_objW (Rg (op i)) (Rg j) = (1 : Int32) := by rw [cs_objW, c7]; rfl
                  exact mp_iret hx hb hr hlocks (Nat.le_of_ble_eq_true rfl) (Nat.le_of_ble_eq_true rfl) hM hS dX7_object_127 (Or.inr ⟨i, j, hi, ei, hj, ej, ⟨c1, c3⟩, Or.inr (Or.inr (Or.inr ⟨pB_iff.mp c4, c5, Classical.byContradiction (fun z => pB_not.mp c6 z), by rw [hw], by rw [hw]; exact hB.app hi _, fr9 (by simp)⟩))⟩)
                · have c7 : (pB (cdW (Rg (op i)) (Rg j) (0 : Int32) ∨ cdW (Rg j) (Rg (op i)) (0 : Int32))) = true := bI_1.mp c7
                  refine lv_iconst (v := (2 : Int32)) hx hb dX7_object_111 (by decide) ?_
                  refine lv_goto (tgt := 116) hx hb dX7_object_112 (by decide) ?_
                  refine lv_istore (lv' := [(6, .int (2 : Int32)), (5, .ref (ra (op i))), (4, .ref (ra j)), (3, .ref (aa i)), (0, .ref bq), (1, .int q1), (2, .int q2)]) hx hb dX7_object_116 hl (by decide) rfl (fun ls hl => ?_)
                  refine lv_aload_n hx hb dX7_object_118 rfl (lv_at hl 3 rfl) ?_
                  refine lv_iload_n hx hb dX7_object_119 rfl (lv_at hl 6 rfl) ?_
                  refine lv_iload hx hb dX7_object_120 (lv_at hl 0 rfl) ?_
                  refine mp_callv (va_runV (As := [.int q2, .int (2 : Int32)]) (rest := []) ⟨hx, hb, hml, hown, hts⟩ (c_X0_addObjection l X G A (M) (aa i) (dq i) (av i) (1, i, 0) (hB.A (i := i) (by omega)) q2 (2 : Int32)) (cwV 2 hts gX7_object_X0_addObjection rfl rfl rfl (by decide +kernel) ⟨Nat.le_of_ble_eq_true rfl, Nat.le_of_ble_eq_true rfl⟩) (mp_preV hC hS hM (mp_recv hC.1 hM (hB.A (i := i) (by omega)) (r := (RX0, TX0, 12)) rfl)) rfl rfl hl.1 rfl (lv_room (Nat.le_of_ble_eq_true rfl)) dX7_object_122 ⟨Nat.le_of_ble_eq_true rfl, Nat.le_of_ble_eq_true rfl⟩) hS (fun H locs hM hS => ?_)
                  refine lv_iload hx hb dX7_object_125 (lv_at hl 0 rfl) ?_
                  have hw : cs_objW (Rg (op i)) (Rg j) = (2 : Int32) := by rw [cs_objW, c7]; rfl
                  exact mp_iret hx hb hr hlocks (Nat.le_of_ble_eq_true rfl) (Nat.le_of_ble_eq_true rfl) hM hS dX7_object_127 (Or.inr ⟨i, j, hi, ei, hj, ej, ⟨c1, c3⟩, Or.inr (Or.inr (Or.inr ⟨pB_iff.mp c4, c5, Classical.byContradiction (fun z => pB_not.mp c6 z), by rw [hw], by rw [hw]; exact hB.app hi _, fr9 (by simp)⟩))⟩)
              · have c6 : (pB (¬ (av i) 3 &&& btO q2 = 0)) = true := bI_1.mp c6
                refine lv_bipush (v := (-3 : Int32)) hx hb dX7_object_97 (by decide) ?_
                exact mp_iret hx hb hr hlocks (Nat.le_of_ble_eq_true rfl) (Nat.le_of_ble_eq_true rfl) hM hS dX7_object_99 (Or.inr ⟨i, j, hi, ei, hj, ej, ⟨c1, c3⟩, Or.inr (Or.inr (Or.inl ⟨pB_iff.mp c4, c5, pB_iff.mp c6, rfl, rfl⟩))⟩)
            · have c5 := c5
              refine lv_iconst (v := (-1 : Int32)) hx hb dX7_object_87 (by decide) ?_
              exact mp_iret hx hb hr hlocks (Nat.le_of_ble_eq_true rfl) (Nat.le_of_ble_eq_true rfl) hM hS dX7_object_88 (Or.inr ⟨i, j, hi, ei, hj, ej, ⟨c1, c3⟩, Or.inr (Or.inl ⟨pB_iff.mp c4, i_nle.mp c5, rfl, rfl⟩)⟩)
          · have c4 : (pB (cdW (Rg (op i)) (Rg j) (20 : Int32) ∨ cdW (Rg j) (Rg (op i)) (20 : Int32))) = false := bI_0.mp c4
            refine lv_bipush (v := (-2 : Int32)) hx hb dX7_object_73 (by decide) ?_
            exact mp_iret hx hb hr hlocks (Nat.le_of_ble_eq_true rfl) (Nat.le_of_ble_eq_true rfl) hM hS dX7_object_75 (Or.inr ⟨i, j, hi, ei, hj, ej, ⟨c1, c3⟩, Or.inl ⟨pB_not.mp c4, rfl, rfl⟩⟩)
        · have c3 := c3
          refine lv_bipush (v := (-4 : Int32)) hx hb dX7_object_40 (by decide) ?_
          exact mp_iret hx hb hr hlocks (Nat.le_of_ble_eq_true rfl) (Nat.le_of_ble_eq_true rfl) hM hS dX7_object_42 (Or.inl ⟨fun z => by have y := z.2; rw [ni] at y; exact y.2.2 c3, rfl, rfl⟩)
    · skip
      refine mp_calln (va_runV (As := [.int q2]) (rest := []) ⟨hx, hb, hml, hown, hts⟩ (c_X7_ringAt_n l X G A (M) bq l0 l1 l2 l3 tp tz td fl tt pl ra Rg pn pa pf pk zc zz ap aa dq av dv nh ah vh hB q2 hq2) (cwV 1 hts gX7_object_X7_ringAt rfl rfl rfl (by decide +kernel) ⟨Nat.le_of_ble_eq_true rfl, Nat.le_of_ble_eq_true rfl⟩) (mp_preV hC hS hM (mp_recv hC.1 hM hB.O (r := (RX7, TX7, 9)) rfl)) rfl rfl hl.1 rfl (lv_room (Nat.le_of_ble_eq_true rfl)) dX7_object_8 ⟨Nat.le_of_ble_eq_true rfl, Nat.le_of_ble_eq_true rfl⟩) hS (fun H locs hM hS => ?_)
      refine lv_astoreN (lv' := [(4, .null), (3, .ref (aa i)), (0, .ref bq), (1, .int q1), (2, .int q2)]) hx hb dX7_object_11 hl (by decide) rfl (fun ls hl => ?_)
      refine lv_aload_n hx hb dX7_object_13 rfl (lv_at hl 1 rfl) ?_
      refine lv_ifnull hx hb dX7_object_14 ?_
      refine lv_aload_n hx hb dX7_object_17 rfl (lv_at hl 1 rfl) ?_
      refine va_getN (D := G.1) (C := RX0) (T := TX0) (N := 12) (ci := 1) hx hb hts hin_wsX00 hown hC.1 (hM.one (hB.A (i := i) (by omega))) 0 rfl rfl 2 (by decide) (va_Nw.use rfl nf_232) (fun _ z => z) rfl dX7_object_18 ?_
      refine lv_if_ne (tgt := 40) hx hb dX7_object_21 (by decide) (fun c1 => ?_) (fun c1 => ?_)
      · have c1 := c1
        refine lv_bipush (v := (-4 : Int32)) hx hb dX7_object_40 (by decide) ?_
        exact mp_iret hx hb hr hlocks (Nat.le_of_ble_eq_true rfl) (Nat.le_of_ble_eq_true rfl) hM hS dX7_object_42 (Or.inl ⟨fun z => by have y := z.2; rw [ni] at y; exact c1 y.1, rfl, rfl⟩)
      · have c1 := c1
        refine lv_aloadN hx hb dX7_object_24 (lv_at hl 0 rfl) ?_
        refine lv_ifnullN (tgt := 40) hx hb dX7_object_26 (by decide) ?_
        refine lv_bipush (v := (-4 : Int32)) hx hb dX7_object_40 (by decide) ?_
        exact mp_iret hx hb hr hlocks (Nat.le_of_ble_eq_true rfl) (Nat.le_of_ble_eq_true rfl) hM hS dX7_object_42 (Or.inl ⟨fun z => hq2 z.2.2.1, rfl, rfl⟩)
  · skip
    refine mp_calln (va_runV (As := [.int q1]) (rest := []) ⟨hx, hb, hml, hown, hts⟩ (c_X7_applicationAt_n l X G A (M) bq l0 l1 l2 l3 tp tz td fl tt pl ra Rg pn pa pf pk zc zz ap aa dq av dv nh ah vh hB q1 hq1) (cwV 1 hts gX7_object_X7_applicationAt rfl rfl rfl (by decide +kernel) ⟨Nat.le_of_ble_eq_true rfl, Nat.le_of_ble_eq_true rfl⟩) (mp_preV hC hS hM (mp_recv hC.1 hM hB.O (r := (RX7, TX7, 9)) rfl)) rfl rfl hl.1 rfl (lv_room (Nat.le_of_ble_eq_true rfl)) dX7_object_2 ⟨Nat.le_of_ble_eq_true rfl, Nat.le_of_ble_eq_true rfl⟩) hS (fun H locs hM hS => ?_)
    refine lv_astore_nN (lv' := [(3, .null), (0, .ref bq), (1, .int q1), (2, .int q2)]) hx hb dX7_object_5 rfl hl (by decide) rfl (fun ls hl => ?_)
    refine lv_aload_n hx hb dX7_object_6 rfl (lv_at hl 1 rfl) ?_
    refine lv_iload_n hx hb dX7_object_7 rfl (lv_at hl 3 rfl) ?_
    by_cases hq2 : isAt q2 pl
    · skip
      obtain ⟨j, hj, ej⟩ := id hq2
      have nj : q2.toNatClampNeg = j := by rw [ej]; exact nI_clamp (by omega)
      refine mp_top (nI j) ej ?_
      refine mp_callr (va_runV (As := [.int (nI j)]) (rest := []) ⟨hx, hb, hml, hown, hts⟩ (c_X7_ringAt l X G A (M) bq l0 l1 l2 l3 tp tz td fl tt pl ra Rg pn pa pf pk zc zz ap aa dq av dv nh ah vh hB j hj) (cwV 1 hts gX7_object_X7_ringAt rfl rfl rfl (by decide +kernel) ⟨Nat.le_of_ble_eq_true rfl, Nat.le_of_ble_eq_true rfl⟩) (mp_preV hC hS hM (mp_recv hC.1 hM hB.O (r := (RX7, TX7, 9)) rfl)) rfl rfl hl.1 rfl (lv_room (Nat.le_of_ble_eq_true rfl)) dX7_object_8 ⟨Nat.le_of_ble_eq_true rfl, Nat.le_of_ble_eq_true rfl⟩) hS (fun H locs hM hS => ?_)
      obtain ⟨ax_j, ay_j, hR_j, hX_j, hY_j, hs_j⟩ := hB.R (i := j) (by omega)
      refine lv_astore (lv' := [(4, .ref (ra j)), (3, .null), (0, .ref bq), (1, .int q1), (2, .int q2)]) hx hb dX7_object_11 hl (by decide) rfl (fun ls hl => ?_)
      refine lv_aload_nN hx hb dX7_object_13 rfl (lv_at hl 1 rfl) ?_
      refine lv_ifnullN (tgt := 40) hx hb dX7_object_14 (by decide) ?_
      refine lv_bipush (v := (-4 : Int32)) hx hb dX7_object_40 (by decide) ?_
      exact mp_iret hx hb hr hlocks (Nat.le_of_ble_eq_true rfl) (Nat.le_of_ble_eq_true rfl) hM hS dX7_object_42 (Or.inl ⟨fun z => hq1 z.1, rfl, rfl⟩)
    · skip
      refine mp_calln (va_runV (As := [.int q2]) (rest := []) ⟨hx, hb, hml, hown, hts⟩ (c_X7_ringAt_n l X G A (M) bq l0 l1 l2 l3 tp tz td fl tt pl ra Rg pn pa pf pk zc zz ap aa dq av dv nh ah vh hB q2 hq2) (cwV 1 hts gX7_object_X7_ringAt rfl rfl rfl (by decide +kernel) ⟨Nat.le_of_ble_eq_true rfl, Nat.le_of_ble_eq_true rfl⟩) (mp_preV hC hS hM (mp_recv hC.1 hM hB.O (r := (RX7, TX7, 9)) rfl)) rfl rfl hl.1 rfl (lv_room (Nat.le_of_ble_eq_true rfl)) dX7_object_8 ⟨Nat.le_of_ble_eq_true rfl, Nat.le_of_ble_eq_true rfl⟩) hS (fun H locs hM hS => ?_)
      refine lv_astoreN (lv' := [(4, .null), (3, .null), (0, .ref bq), (1, .int q1), (2, .int q2)]) hx hb dX7_object_11 hl (by decide) rfl (fun ls hl => ?_)
      refine lv_aload_nN hx hb dX7_object_13 rfl (lv_at hl 1 rfl) ?_
      refine lv_ifnullN (tgt := 40) hx hb dX7_object_14 (by decide) ?_
      refine lv_bipush (v := (-4 : Int32)) hx hb dX7_object_40 (by decide) ?_
      exact mp_iret hx hb hr hlocks (Nat.le_of_ble_eq_true rfl) (Nat.le_of_ble_eq_true rfl) hM hS dX7_object_42 (Or.inl ⟨fun z => hq1 z.1, rfl, rfl⟩)
