/-- what the zones of a plan leave behind -/
def ZF (f f2 : Nat → Nat → Int32) (p0 m : Nat) (zs : Nat → zr) : Prop := (∀ k, k ≠ 17 → k ≠ 18 → k ≠ 19 → k ≠ 20 → f2 k = f k) ∧ f2 17 p0 = nI m ∧ (∀ o, o ≠ p0 → f2 17 o = f 17 o) ∧ (∀ z, z < 8 * p0 → f2 18 z = f 18 z ∧ f2 19 z = f 19 z) ∧ (∀ y, y < 32 * p0 → f2 20 y = f 20 y) ∧ ∀ j, j < m → zAt f2 (8 * p0 + j) (zs j)
theorem ZF_zone {f f2 f3 : Nat → Nat → Int32} {p0 m : Nat} {zs : Nat → zr} {r : zr} (h : ZF f f2 p0 m zs) (h2 : zOK f2 f3 (8 * p0 + m) r) : ZF f f3 p0 m zs := by
  obtain ⟨a1, a2, a3, a4, a5, a6⟩ := h
  obtain ⟨b1, b2, b3, b4⟩ := h2
  refine ⟨fun k k1 k2 k3 k4 => (b1 k k2 k3 k4).trans (a1 k k1 k2 k3 k4), by rw [b1 17 (by decide) (by decide) (by decide)]; exact a2, fun o ho => by rw [b1 17 (by decide) (by decide) (by decide)]; exact a3 o ho, fun z hz => ?_, fun y hy => (b3 y (by omega)).trans (a5 y hy), fun j hj => ?_⟩
  · have c := b2 z (by omega)
    have d := a4 z hz
    exact ⟨c.1.trans d.1, c.2.trans d.2⟩
  · have c := b2 (8 * p0 + j) (by omega)
    obtain ⟨d1, d2, d3⟩ := a6 j hj
    exact ⟨c.1.trans d1, c.2.trans d2, fun u hu => (b3 (4 * (8 * p0 + j) + u) (by omega)).trans (d3 u hu)⟩
theorem ZF_more {f f2 : Nat → Nat → Int32} {p0 m : Nat} {zs : Nat → zr} {r : zr} (h : ZF f f2 p0 m zs) (h2 : zAt f2 (8 * p0 + m) r) : ZF f (va_up f2 17 (upd (f2 17) p0 (nI (m + 1)))) p0 (m + 1) (va_up zs m r) := by
  obtain ⟨a1, a2, a3, a4, a5, a6⟩ := h
  refine ⟨fun k k1 k2 k3 k4 => (va_up_ne _ _ k1).trans (a1 k k1 k2 k3 k4), pk_us, fun o ho => (pk_un ho).trans (a3 o ho), a4, a5, fun j hj => ?_⟩
  by_cases e : j = m
  · subst e
    rw [va_up_self]
    exact h2
  · rw [va_up_ne _ _ e]
    exact a6 j (by omega)
theorem zr0_at (f : Nat → Nat → Int32) (z : Nat) : zOK f (va_up (va_up (va_up f 18 (upd (f 18) z 0)) 19 (upd (f 19) z 0)) 20 (upd (upd (upd (upd (f 20) (4 * z + 0) (-1)) (4 * z + 1) (-1)) (4 * z + 2) (-1)) (4 * z + 3) (-1))) z zr0 := by
  refine ⟨fun k k1 k2 k3 => by rw [va_up_ne _ _ k3, va_up_ne _ _ k2, va_up_ne _ _ k1], fun y hy => ⟨pk_un hy, pk_un hy⟩, fun y hy => ?_, pk_us, pk_us, fun u hu => ?_⟩
  · show upd _ _ _ y = f 20 y
    rw [pk_un (by omega), pk_un (by omega), pk_un (by omega), pk_un (by omega)]
  · show upd _ _ _ (4 * z + u) = -1
    by_cases e3 : u = 3
    · rw [e3, pk_us]
    · rw [pk_un (by omega)]
      by_cases e2 : u = 2
      · rw [e2, pk_us]
      · rw [pk_un (by omega)]
        by_cases e1 : u = 1
        · rw [e1, pk_us]
        · rw [pk_un (by omega), show u = 0 by omega, pk_us]
theorem tb_tb {t : Nat → Int32} {sz i : Nat} (h : i ≤ sz) : tb t sz (tb t sz i) = tb t sz i := sk_no ((sk_spec (P := isB t) (sz - i + 1) i (by omega) h).2.2.2)
abbrev rmX8_zones : Room := { frames := 3, cells := 0, slots := 0, locals := 68 }
set_option maxHeartbeats 4000000 in
set_option maxRecDepth 100000 in
theorem c_X8_zones (l : Launch) (X : mp_X) (G : mp_G) (A : Nat → Prop) (B : mp_M) (h : Nat) (ad : Nat → Nat) (n : Nat → Int32) (f : Nat → Nat → Int32) (sz i : Nat) (hsz : n 12 = nI sz) (hsz9 : sz ≤ 600) (hi : n 13 = nI i) (hi9 : i ≤ sz) (p0 : Nat) (hp0 : p0 < 20) : mp_Met l X G A yX8_zones wsX8_zones rmX8_zones ([.ref h, .int (nI p0)] : List Value) (md_M G B h ad n f) (fun v1 M1 => ∃ n2 f2, M1 = md_M G B h ad n2 f2 ∧ v1 = some (.int (bI (zoS (f 10) sz 601 (tb (f 10) sz i) 0 (fun _ => zr0)).1)) ∧ n2 13 = nI (zoS (f 10) sz 601 (tb (f 10) sz i) 0 (fun _ => zr0)).2.1 ∧ nOK n n2 ∧ ZF f f2 p0 (zoS (f 10) sz 601 (tb (f 10) sz i) 0 (fun _ => zr0)).2.2.1 (zoS (f 10) sz 601 (tb (f 10) sz i) 0 (fun _ => zr0)).2.2.2) 0 0 := by
  refine mp_ofW (cc := cX8_zones) (maxL := 4) (ret := (some .boolean)) (by decide) rfl (Nat.le_of_ble_eq_true rfl) ?_
  intro p e s m below meth c ls hx hb hr hts hown hlocks hnm hml hC hM hS hl
  have hl : lv_has ls 4 [(0, .ref h), (1, .int (nI p0))] := hl
  have hown : s.vm.findClass RX8 = some m.cls := hown
  have fl_36 := hts (.fieldLink RX8 36 "PlanningBenchModel" "zoneMany" "[I") (List.mem_of_getElem? (i := 1) rfl)
  have hin_wsX80 : ∀ w ∈ wsX80, w ∈ wsX8_zones := fun _ h => List.mem_cons_of_mem _ (List.mem_append_right _ h)
  have fl_167 := hts (.fieldLink RX8 167 "PlanningBenchModel" "at" "I") (List.mem_of_getElem? (i := 2) rfl)
  have fl_170 := hts (.fieldLink RX8 170 "PlanningBenchModel" "size" "I") (List.mem_of_getElem? (i := 3) rfl)
  have hw_211 := hts (.constantLong RX8 211 (2054123109)) (List.mem_of_getElem? (i := 4) rfl)
  have fl_176 := hts (.fieldLink RX8 176 "PlanningBenchModel" "wordEnd" "I") (List.mem_of_getElem? (i := 5) rfl)
  have fl_39 := hts (.fieldLink RX8 39 "PlanningBenchModel" "zonePlots" "[I") (List.mem_of_getElem? (i := 6) rfl)
  have fl_42 := hts (.fieldLink RX8 42 "PlanningBenchModel" "zoneUses" "[I") (List.mem_of_getElem? (i := 7) rfl)
  have fl_45 := hts (.fieldLink RX8 45 "PlanningBenchModel" "zoneNumber" "[I") (List.mem_of_getElem? (i := 8) rfl)
  refine lv_aload_n hx hb dX8_zones_0 rfl (lv_at hl 0 rfl) ?_
  refine md_getr hx hb hts hin_wsX80 hown hC hM 17 (by decide) rfl fl_36 dX8_zones_1 ?_
  refine lv_iload_n hx hb dX8_zones_4 rfl (lv_at hl 1 rfl) ?_
  refine lv_iconst (v := (0 : Int32)) hx hb dX8_zones_5 (by decide) ?_
  refine md_iast hx hb hC hM hS 17 rfl (j := p0) (by omega) (by decide) dX8_zones_6 (fun H locs hM hS => ?_)
  have hM : mp_P G.1 A (md_M G B h ad n (va_up f 17 (upd (f 17) p0 (0 : Int32)))) H := hM
  refine lv_aload_n hx hb dX8_zones_7 rfl (lv_at hl 0 rfl) ?_
  have hb_1 := tb_in (t := (f 10)) (sz := sz) (i := i) (by omega)
  refine mp_callv (va_runV (As := []) (rest := []) ⟨hx, hb, hml, hown, hts⟩ (c_X8_blanks l X G A B h ad n (va_up f 17 (upd (f 17) p0 (0 : Int32))) sz i hsz (by omega) hi (by omega)) (cwV 0 hts gX8_zones_X8_blanks rfl rfl rfl (by decide +kernel) ⟨Nat.le_of_ble_eq_true rfl, Nat.le_of_ble_eq_true rfl⟩) (mp_preV hC hS hM (md_recv hC hM)) rfl rfl hl.1 rfl (lv_room (Nat.le_of_ble_eq_true rfl)) dX8_zones_8 ⟨Nat.le_of_ble_eq_true rfl, Nat.le_of_ble_eq_true rfl⟩) hS (fun H locs hM hS => ?_)
  have LP11 : ∀ (kk : Nat) (j m0 fu : Nat) (zs : Nat → zr) (n3 : Nat → Int32) (f3 : Nat → Nat → Int32) (ls : Array Slot) (H : Heap) (locs : List Loc), sz - j < kk → j ≤ sz → sz - j < fu → m0 ≤ 8 → tb (f 10) sz j = j → n3 13 = nI j → n3 12 = nI sz → nOK n n3 → ZF f f3 p0 m0 zs → f3 10 = f 10 → zoS (f 10) sz 601 (tb (f 10) sz i) 0 (fun _ => zr0) = zoS (f 10) sz fu j m0 zs → mp_P G.1 A (md_M G B h ad n3 f3) H → va_S A s.heap H locs → lv_has ls 4 [(0, .ref h), (1, .int (nI p0))] → W p l e rmX8_zones s m ([.ref h, .int (nI p0)] : List Value).toArray below meth c H locs 0 0 (MQ below (mp_Q G.1 A (fun v1 M1 => ∃ n2 f2, M1 = md_M G B h ad n2 f2 ∧ v1 = some (.int (bI (zoS (f 10) sz 601 (tb (f 10) sz i) 0 (fun _ => zr0)).1)) ∧ n2 13 = nI (zoS (f 10) sz 601 (tb (f 10) sz i) 0 (fun _ => zr0)).2.1 ∧ nOK n n2 ∧ ZF f f2 p0 (zoS (f 10) sz 601 (tb (f 10) sz i) 0 (fun _ => zr0)).2.2.1 (zoS (f 10) sz 601 (tb (f 10) sz i) 0 (fun _ => zr0)).2.2.2)) ([.ref h, .int (nI p0)] : List Value).toArray s 0 0 A) (F0 m 11 ls []) := by
    intro kk
    induction kk with
    | zero => intro j m0 fu zs n3 f3 ls H locs hk; exact absurd hk (Nat.not_lt_zero _)
    | succ kk ih =>
      intro j m0 fu zs n3 f3 ls H locs hk hj hfl hm0 htb h13 h12 hn3 hzf ht3 hres hM hS hl
      have hfu : fu = (fu - 1) + 1 := by omega
      refine lv_aload_n hx hb dX8_zones_11 rfl (lv_at hl 0 rfl) ?_
      refine md_geti hx hb hts hin_wsX80 hown hC hM 13 (by decide) rfl fl_167 dX8_zones_12 ?_
      refine mp_top (nI j) h13 ?_
      refine lv_aload_n hx hb dX8_zones_15 rfl (lv_at hl 0 rfl) ?_
      refine md_geti hx hb hts hin_wsX80 hown hC hM 12 (by decide) rfl fl_170 dX8_zones_16 ?_
      refine mp_top (nI sz) h12 ?_
      refine lv_icmp_ge (tgt := 163) hx hb dX8_zones_19 (by decide) (fun c1 => ?_) (fun c1 => ?_)
      · have c1 := nn_le (a := sz) (b := j) (by omega) (by omega) c1
        refine lv_iconst (v := (1 : Int32)) hx hb dX8_zones_163 (by decide) ?_
        exact mp_zret hx hb hr hlocks (Nat.le_of_ble_eq_true rfl) (Nat.le_of_ble_eq_true rfl) hM hS dX8_zones_164 (by first | rfl | exact bI_nar _) (have E : zoS (f 10) sz 601 (tb (f 10) sz i) 0 (fun _ => zr0) = (true, j, m0, zs) := (by rw [hres, hfu, zoS, if_neg (by omega)]); ⟨n3, f3, rfl, by rw [E] <;> rfl, by rw [E]; exact h13, hn3, by rw [E]; exact hzf⟩)
      · have c1 := nn_nle (a := sz) (b := j) (by omega) (by omega) c1
        refine lv_aload_n hx hb dX8_zones_22 rfl (lv_at hl 0 rfl) ?_
        have hb_2 := we_in (t := (f 10)) (sz := sz) (i := j) (by omega)
        refine mp_calll (va_runV (As := []) (rest := []) ⟨hx, hb, hml, hown, hts⟩ (c_X8_word l X G A B h ad n3 f3 sz j h12 (by omega) h13 (by omega)) (cwV 0 hts gX8_zones_X8_word rfl rfl rfl (by decide +kernel) ⟨Nat.le_of_ble_eq_true rfl, Nat.le_of_ble_eq_true rfl⟩) (mp_preV hC hS hM (md_recv hC hM)) rfl rfl hl.1 rfl (lv_room (Nat.le_of_ble_eq_true rfl)) dX8_zones_23 ⟨Nat.le_of_ble_eq_true rfl, Nat.le_of_ble_eq_true rfl⟩) hS (fun H locs hM hS => ?_)
        try simp only [ht3] at hM ⊢
        refine lv_ldc2 (v := 2054123109) hx hb hown hw_211 dX8_zones_26 ?_
        refine W.lcmp hx hb dX8_zones_29 ?_
        refine lv_if_ne (tgt := 44) hx hb dX8_zones_30 (by decide) (fun c2 => ?_) (fun c2 => ?_)
        · have c2 := fun q => c2 ((lg_cmp_eq _ _).mpr q)
          refine lv_iconst (v := (0 : Int32)) hx hb dX8_zones_44 (by decide) ?_
          exact mp_zret hx hb hr hlocks (Nat.le_of_ble_eq_true rfl) (Nat.le_of_ble_eq_true rfl) hM hS dX8_zones_45 (by first | rfl | exact bI_nar _) (have E : zoS (f 10) sz 601 (tb (f 10) sz i) 0 (fun _ => zr0) = (false, tb (f 10) sz j, m0, zs) := (by rw [hres, hfu, zoS, if_pos c1, pB_f (fun z => c2 z.1), if_neg (by decide)]); ⟨_, f3, rfl, by rw [E] <;> rfl, by rw [E] <;> rfl, (fun k h1 h2 h3 => (by simp [upd, h1, h2, h3]; exact hn3 k h1 h2 h3)), by rw [E]; exact hzf⟩)
        · have c2 := (lg_cmp_eq _ _).mp c2
          refine lv_aload_n hx hb dX8_zones_33 rfl (lv_at hl 0 rfl) ?_
          refine md_getr hx hb hts hin_wsX80 hown hC hM 17 (by decide) rfl fl_36 dX8_zones_34 ?_
          refine lv_iload_n hx hb dX8_zones_37 rfl (lv_at hl 1 rfl) ?_
          refine md_iald hx hb hC hM 17 rfl (j := p0) (by omega) (by decide) dX8_zones_38 ?_
          refine mp_top (nI m0) hzf.2.1 ?_
          refine lv_bipush (v := (8 : Int32)) hx hb dX8_zones_39 (by decide) ?_
          refine lv_icmp_ne (tgt := 46) hx hb dX8_zones_41 (by decide) (fun c3 => ?_) (fun c3 => ?_)
          · have c3 := nn_neq (a := m0) (b := 8) (by omega) (by omega) c3
            refine lv_aload_n hx hb dX8_zones_46 rfl (lv_at hl 0 rfl) ?_
            refine lv_aload_n hx hb dX8_zones_47 rfl (lv_at hl 0 rfl) ?_
            refine md_geti hx hb hts hin_wsX80 hown hC hM 21 (by decide) rfl fl_176 dX8_zones_48 ?_
            refine mp_top (nI (we (f 10) sz j)) rfl ?_
            refine md_puti hx hb hts hin_wsX80 hown hC hM hS 13 (by decide) rfl rfl rfl fl_167 dX8_zones_51 (fun H locs hM hS => ?_)
            refine lv_aload_n hx hb dX8_zones_54 rfl (lv_at hl 0 rfl) ?_
            refine lv_bipush (v := (123 : Int32)) hx hb dX8_zones_55 (by decide) ?_
            have hb_3 := tk_in (t := (f 10)) (sz := sz) (i := we (f 10) sz j) (123 : Int32) (by omega)
            have hb_4 := tb_in (t := (f 10)) (sz := sz) (i := we (f 10) sz j) (by omega)
            refine mp_calli (va_runV (As := [.int (123 : Int32)]) (rest := []) ⟨hx, hb, hml, hown, hts⟩ (c_X8_takes l X G A B h ad (upd (upd (upd n3 13 (nI (tb (f 10) sz j))) 21 (nI (we (f 10) sz j))) 13 (nI (we (f 10) sz j))) f3 sz (we (f 10) sz j) h12 (by omega) rfl (by omega) (123 : Int32)) (cwV 1 hts gX8_zones_X8_takes rfl rfl rfl (by decide +kernel) ⟨Nat.le_of_ble_eq_true rfl, Nat.le_of_ble_eq_true rfl⟩) (mp_preV hC hS hM (md_recv hC hM)) rfl rfl hl.1 rfl (lv_room (Nat.le_of_ble_eq_true rfl)) dX8_zones_57 ⟨Nat.le_of_ble_eq_true rfl, Nat.le_of_ble_eq_true rfl⟩) hS (fun H locs hM hS => ?_)
            try simp only [ht3] at hM ⊢
            refine lv_if_ne (tgt := 65) hx hb dX8_zones_60 (by decide) (fun c4 => ?_) (fun c4 => ?_)
            · have c4 : (pB (tkP (f 10) sz (we (f 10) sz j) (123 : Int32))) = true := bI_1.mp c4
              refine lv_bipush (v := (8 : Int32)) hx hb dX8_zones_65 (by decide) ?_
              refine lv_iload_n hx hb dX8_zones_67 rfl (lv_at hl 1 rfl) ?_
              refine lv_imul hx hb dX8_zones_68 ?_
              refine mp_top (nI (8 * p0)) (pk_mul 8 p0) ?_
              refine lv_aload_n hx hb dX8_zones_69 rfl (lv_at hl 0 rfl) ?_
              refine md_getr hx hb hts hin_wsX80 hown hC hM 17 (by decide) rfl fl_36 dX8_zones_70 ?_
              refine lv_iload_n hx hb dX8_zones_73 rfl (lv_at hl 1 rfl) ?_
              refine md_iald hx hb hC hM 17 rfl (j := p0) (by omega) (by decide) dX8_zones_74 ?_
              refine mp_top (nI m0) hzf.2.1 ?_
              refine lv_iadd hx hb dX8_zones_75 ?_
              refine mp_top (nI ((8 * p0) + m0)) (nI_add (8 * p0) m0) ?_
              refine lv_istore_n (lv' := [(2, .int (nI ((8 * p0) + m0))), (0, .ref h), (1, .int (nI p0))]) hx hb dX8_zones_76 rfl hl (by decide) rfl (fun ls hl => ?_)
              refine lv_aload_n hx hb dX8_zones_77 rfl (lv_at hl 1 rfl) ?_
              refine md_getr hx hb hts hin_wsX80 hown hC hM 18 (by decide) rfl fl_39 dX8_zones_78 ?_
              refine lv_iload_n hx hb dX8_zones_81 rfl (lv_at hl 0 rfl) ?_
              refine lv_iconst (v := (0 : Int32)) hx hb dX8_zones_82 (by decide) ?_
              refine md_iast hx hb hC hM hS 18 rfl (j := (8 * p0) + m0) (by omega) (by decide) dX8_zones_83 (fun H locs hM hS => ?_)
              have hM : mp_P G.1 A (md_M G B h ad (upd (upd (upd (upd n3 13 (nI (tb (f 10) sz j))) 21 (nI (we (f 10) sz j))) 13 (nI (we (f 10) sz j))) 13 (nI (tkN (f 10) sz (we (f 10) sz j) (123 : Int32)))) (va_up f3 18 (upd (f3 18) ((8 * p0) + m0) (0 : Int32)))) H := hM
              refine lv_aload_n hx hb dX8_zones_84 rfl (lv_at hl 1 rfl) ?_
              refine md_getr hx hb hts hin_wsX80 hown hC hM 19 (by decide) rfl fl_42 dX8_zones_85 ?_
              refine lv_iload_n hx hb dX8_zones_88 rfl (lv_at hl 0 rfl) ?_
              refine lv_iconst (v := (0 : Int32)) hx hb dX8_zones_89 (by decide) ?_
              refine md_iast hx hb hC hM hS 19 rfl (j := (8 * p0) + m0) (by omega) (by decide) dX8_zones_90 (fun H locs hM hS => ?_)
              have hM : mp_P G.1 A (md_M G B h ad (upd (upd (upd (upd n3 13 (nI (tb (f 10) sz j))) 21 (nI (we (f 10) sz j))) 13 (nI (we (f 10) sz j))) 13 (nI (tkN (f 10) sz (we (f 10) sz j) (123 : Int32)))) (va_up (va_up f3 18 (upd (f3 18) ((8 * p0) + m0) (0 : Int32))) 19 (upd (f3 19) ((8 * p0) + m0) (0 : Int32)))) H := hM
              refine lv_iconst (v := (0 : Int32)) hx hb dX8_zones_91 (by decide) ?_
              refine lv_istore_n (lv' := [(3, .int (0 : Int32)), (2, .int (nI ((8 * p0) + m0))), (0, .ref h), (1, .int (nI p0))]) hx hb dX8_zones_92 rfl hl (by decide) rfl (fun ls hl => ?_)
              refine lv_iload_n hx hb dX8_zones_93 rfl (lv_at hl 0 rfl) ?_
              refine lv_iconst (v := (4 : Int32)) hx hb dX8_zones_94 (by decide) ?_
              refine lv_icmp_ge (tgt := 115) hx hb dX8_zones_95 (by decide) (fun c_5 => ?_) (fun c_5 => ?_)
              · have c_5 := c_5
                exact absurd c_5 (by decide)
              · have c_5 := c_5
                refine lv_aload_n hx hb dX8_zones_98 rfl (lv_at hl 2 rfl) ?_
                refine md_getr hx hb hts hin_wsX80 hown hC hM 20 (by decide) rfl fl_45 dX8_zones_99 ?_
                refine lv_iconst (v := (4 : Int32)) hx hb dX8_zones_102 (by decide) ?_
                refine lv_iload_n hx hb dX8_zones_103 rfl (lv_at hl 1 rfl) ?_
                refine lv_imul hx hb dX8_zones_104 ?_
                refine mp_top (nI (4 * ((8 * p0) + m0))) (pk_mul 4 ((8 * p0) + m0)) ?_
                refine lv_iload_n hx hb dX8_zones_105 rfl (lv_at hl 0 rfl) ?_
                refine lv_iadd hx hb dX8_zones_106 ?_
                refine mp_top (nI ((4 * ((8 * p0) + m0)) + 0)) (nI_add (4 * ((8 * p0) + m0)) 0) ?_
                refine lv_iconst (v := (-1 : Int32)) hx hb dX8_zones_107 (by decide) ?_
                refine md_iast hx hb hC hM hS 20 rfl (j := (4 * ((8 * p0) + m0)) + 0) (by omega) (by decide) dX8_zones_108 (fun H locs hM hS => ?_)
                have hM : mp_P G.1 A (md_M G B h ad (upd (upd (upd (upd n3 13 (nI (tb (f 10) sz j))) 21 (nI (we (f 10) sz j))) 13 (nI (we (f 10) sz j))) 13 (nI (tkN (f 10) sz (we (f 10) sz j) (123 : Int32)))) (va_up (va_up (va_up f3 18 (upd (f3 18) ((8 * p0) + m0) (0 : Int32))) 19 (upd (f3 19) ((8 * p0) + m0) (0 : Int32))) 20 (upd (f3 20) ((4 * ((8 * p0) + m0)) + 0) (-1 : Int32)))) H := hM
                refine lv_iinc (v := (1 : Int32)) (lv' := [(3, .int (1 : Int32)), (2, .int (nI ((8 * p0) + m0))), (0, .ref h), (1, .int (nI p0))]) hx hb dX8_zones_109 hl (k := 0) rfl (by decide) (by decide) rfl (fun ls hl => ?_)
                refine lv_goto (tgt := 93) hx hb dX8_zones_112 (by decide) ?_
                refine lv_iload_n hx hb dX8_zones_93 rfl (lv_at hl 0 rfl) ?_
                refine lv_iconst (v := (4 : Int32)) hx hb dX8_zones_94 (by decide) ?_
                refine lv_icmp_ge (tgt := 115) hx hb dX8_zones_95 (by decide) (fun c_6 => ?_) (fun c_6 => ?_)
                · have c_6 := c_6
                  exact absurd c_6 (by decide)
                · have c_6 := c_6
                  refine lv_aload_n hx hb dX8_zones_98 rfl (lv_at hl 2 rfl) ?_
                  refine md_getr hx hb hts hin_wsX80 hown hC hM 20 (by decide) rfl fl_45 dX8_zones_99 ?_
                  refine lv_iconst (v := (4 : Int32)) hx hb dX8_zones_102 (by decide) ?_
                  refine lv_iload_n hx hb dX8_zones_103 rfl (lv_at hl 1 rfl) ?_
                  refine lv_imul hx hb dX8_zones_104 ?_
                  refine mp_top (nI (4 * ((8 * p0) + m0))) (pk_mul 4 ((8 * p0) + m0)) ?_
                  refine lv_iload_n hx hb dX8_zones_105 rfl (lv_at hl 0 rfl) ?_
                  refine lv_iadd hx hb dX8_zones_106 ?_
                  refine mp_top (nI ((4 * ((8 * p0) + m0)) + 1)) (nI_add (4 * ((8 * p0) + m0)) 1) ?_
                  refine lv_iconst (v := (-1 : Int32)) hx hb dX8_zones_107 (by decide) ?_
                  refine md_iast hx hb hC hM hS 20 rfl (j := (4 * ((8 * p0) + m0)) + 1) (by omega) (by decide) dX8_zones_108 (fun H locs hM hS => ?_)
                  rw [bx_uu] at hM
                  have hM : mp_P G.1 A (md_M G B h ad (upd (upd (upd (upd n3 13 (nI (tb (f 10) sz j))) 21 (nI (we (f 10) sz j))) 13 (nI (we (f 10) sz j))) 13 (nI (tkN (f 10) sz (we (f 10) sz j) (123 : Int32)))) (va_up (va_up (va_up f3 18 (upd (f3 18) ((8 * p0) + m0) (0 : Int32))) 19 (upd (f3 19) ((8 * p0) + m0) (0 : Int32))) 20 (upd (upd (f3 20) ((4 * ((8 * p0) + m0)) + 0) (-1 : Int32)) ((4 * ((8 * p0) + m0)) + 1) (-1 : Int32)))) H := hM
                  refine lv_iinc (v := (2 : Int32)) (lv' := [(3, .int (2 : Int32)), (2, .int (nI ((8 * p0) + m0))), (0, .ref h), (1, .int (nI p0))]) hx hb dX8_zones_109 hl (k := 0) rfl (by decide) (by decide) rfl (fun ls hl => ?_)
                  refine lv_goto (tgt := 93) hx hb dX8_zones_112 (by decide) ?_
                  refine lv_iload_n hx hb dX8_zones_93 rfl (lv_at hl 0 rfl) ?_
                  refine lv_iconst (v := (4 : Int32)) hx hb dX8_zones_94 (by decide) ?_
                  refine lv_icmp_ge (tgt := 115) hx hb dX8_zones_95 (by decide) (fun c_7 => ?_) (fun c_7 => ?_)
                  · have c_7 := c_7
                    exact absurd c_7 (by decide)
                  · have c_7 := c_7
                    refine lv_aload_n hx hb dX8_zones_98 rfl (lv_at hl 2 rfl) ?_
                    refine md_getr hx hb hts hin_wsX80 hown hC hM 20 (by decide) rfl fl_45 dX8_zones_99 ?_
                    refine lv_iconst (v := (4 : Int32)) hx hb dX8_zones_102 (by decide) ?_
                    refine lv_iload_n hx hb dX8_zones_103 rfl (lv_at hl 1 rfl) ?_
                    refine lv_imul hx hb dX8_zones_104 ?_
                    refine mp_top (nI (4 * ((8 * p0) + m0))) (pk_mul 4 ((8 * p0) + m0)) ?_
                    refine lv_iload_n hx hb dX8_zones_105 rfl (lv_at hl 0 rfl) ?_
                    refine lv_iadd hx hb dX8_zones_106 ?_
                    refine mp_top (nI ((4 * ((8 * p0) + m0)) + 2)) (nI_add (4 * ((8 * p0) + m0)) 2) ?_
                    refine lv_iconst (v := (-1 : Int32)) hx hb dX8_zones_107 (by decide) ?_
                    refine md_iast hx hb hC hM hS 20 rfl (j := (4 * ((8 * p0) + m0)) + 2) (by omega) (by decide) dX8_zones_108 (fun H locs hM hS => ?_)
                    rw [bx_uu] at hM
                    have hM : mp_P G.1 A (md_M G B h ad (upd (upd (upd (upd n3 13 (nI (tb (f 10) sz j))) 21 (nI (we (f 10) sz j))) 13 (nI (we (f 10) sz j))) 13 (nI (tkN (f 10) sz (we (f 10) sz j) (123 : Int32)))) (va_up (va_up (va_up f3 18 (upd (f3 18) ((8 * p0) + m0) (0 : Int32))) 19 (upd (f3 19) ((8 * p0) + m0) (0 : Int32))) 20 (upd (upd (upd (f3 20) ((4 * ((8 * p0) + m0)) + 0) (-1 : Int32)) ((4 * ((8 * p0) + m0)) + 1) (-1 : Int32)) ((4 * ((8 * p0) + m0)) + 2) (-1 : Int32)))) H := hM
                    refine lv_iinc (v := (3 : Int32)) (lv' := [(3, .int (3 : Int32)), (2, .int (nI ((8 * p0) + m0))), (0, .ref h), (1, .int (nI p0))]) hx hb dX8_zones_109 hl (k := 0) rfl (by decide) (by decide) rfl (fun ls hl => ?_)
                    refine lv_goto (tgt := 93) hx hb dX8_zones_112 (by decide) ?_
                    refine lv_iload_n hx hb dX8_zones_93 rfl (lv_at hl 0 rfl) ?_
                    refine lv_iconst (v := (4 : Int32)) hx hb dX8_zones_94 (by decide) ?_
                    refine lv_icmp_ge (tgt := 115) hx hb dX8_zones_95 (by decide) (fun c_8 => ?_) (fun c_8 => ?_)
                    · have c_8 := c_8
                      exact absurd c_8 (by decide)
                    · have c_8 := c_8
                      refine lv_aload_n hx hb dX8_zones_98 rfl (lv_at hl 2 rfl) ?_
                      refine md_getr hx hb hts hin_wsX80 hown hC hM 20 (by decide) rfl fl_45 dX8_zones_99 ?_
                      refine lv_iconst (v := (4 : Int32)) hx hb dX8_zones_102 (by decide) ?_
                      refine lv_iload_n hx hb dX8_zones_103 rfl (lv_at hl 1 rfl) ?_
                      refine lv_imul hx hb dX8_zones_104 ?_
                      refine mp_top (nI (4 * ((8 * p0) + m0))) (pk_mul 4 ((8 * p0) + m0)) ?_
                      refine lv_iload_n hx hb dX8_zones_105 rfl (lv_at hl 0 rfl) ?_
                      refine lv_iadd hx hb dX8_zones_106 ?_
                      refine mp_top (nI ((4 * ((8 * p0) + m0)) + 3)) (nI_add (4 * ((8 * p0) + m0)) 3) ?_
                      refine lv_iconst (v := (-1 : Int32)) hx hb dX8_zones_107 (by decide) ?_
                      refine md_iast hx hb hC hM hS 20 rfl (j := (4 * ((8 * p0) + m0)) + 3) (by omega) (by decide) dX8_zones_108 (fun H locs hM hS => ?_)
                      rw [bx_uu] at hM
                      have hM : mp_P G.1 A (md_M G B h ad (upd (upd (upd (upd n3 13 (nI (tb (f 10) sz j))) 21 (nI (we (f 10) sz j))) 13 (nI (we (f 10) sz j))) 13 (nI (tkN (f 10) sz (we (f 10) sz j) (123 : Int32)))) (va_up (va_up (va_up f3 18 (upd (f3 18) ((8 * p0) + m0) (0 : Int32))) 19 (upd (f3 19) ((8 * p0) + m0) (0 : Int32))) 20 (upd (upd (upd (upd (f3 20) ((4 * ((8 * p0) + m0)) + 0) (-1 : Int32)) ((4 * ((8 * p0) + m0)) + 1) (-1 : Int32)) ((4 * ((8 * p0) + m0)) + 2) (-1 : Int32)) ((4 * ((8 * p0) + m0)) + 3) (-1 : Int32)))) H := hM
                      refine lv_iinc (v := (4 : Int32)) (lv' := [(3, .int (4 : Int32)), (2, .int (nI ((8 * p0) + m0))), (0, .ref h), (1, .int (nI p0))]) hx hb dX8_zones_109 hl (k := 0) rfl (by decide) (by decide) rfl (fun ls hl => ?_)
                      refine lv_goto (tgt := 93) hx hb dX8_zones_112 (by decide) ?_
                      refine lv_iload_n hx hb dX8_zones_93 rfl (lv_at hl 0 rfl) ?_
                      refine lv_iconst (v := (4 : Int32)) hx hb dX8_zones_94 (by decide) ?_
                      refine lv_icmp_ge (tgt := 115) hx hb dX8_zones_95 (by decide) (fun c_9 => ?_) (fun c_9 => ?_)
                      · have c_9 := c_9
                        refine lv_aload_n hx hb dX8_zones_115 rfl (lv_at hl 2 rfl) ?_
                        refine lv_bipush (v := (125 : Int32)) hx hb dX8_zones_116 (by decide) ?_
                        have hb_10 := tk_in (t := (f 10)) (sz := sz) (i := tkN (f 10) sz (we (f 10) sz j) (123 : Int32)) (125 : Int32) (by omega)
                        have hb_11 := tb_in (t := (f 10)) (sz := sz) (i := tkN (f 10) sz (we (f 10) sz j) (123 : Int32)) (by omega)
                        refine mp_calli (va_runV (As := [.int (125 : Int32)]) (rest := []) ⟨hx, hb, hml, hown, hts⟩ (c_X8_takes l X G A B h ad (upd (upd (upd (upd n3 13 (nI (tb (f 10) sz j))) 21 (nI (we (f 10) sz j))) 13 (nI (we (f 10) sz j))) 13 (nI (tkN (f 10) sz (we (f 10) sz j) (123 : Int32)))) (va_up (va_up (va_up f3 18 (upd (f3 18) ((8 * p0) + m0) (0 : Int32))) 19 (upd (f3 19) ((8 * p0) + m0) (0 : Int32))) 20 (upd (upd (upd (upd (f3 20) ((4 * ((8 * p0) + m0)) + 0) (-1 : Int32)) ((4 * ((8 * p0) + m0)) + 1) (-1 : Int32)) ((4 * ((8 * p0) + m0)) + 2) (-1 : Int32)) ((4 * ((8 * p0) + m0)) + 3) (-1 : Int32))) sz (tkN (f 10) sz (we (f 10) sz j) (123 : Int32)) h12 (by omega) rfl (by omega) (125 : Int32)) (cwV 1 hts gX8_zones_X8_takes rfl rfl rfl (by decide +kernel) ⟨Nat.le_of_ble_eq_true rfl, Nat.le_of_ble_eq_true rfl⟩) (mp_preV hC hS hM (md_recv hC hM)) rfl rfl hl.1 rfl (lv_room (Nat.le_of_ble_eq_true rfl)) dX8_zones_118 ⟨Nat.le_of_ble_eq_true rfl, Nat.le_of_ble_eq_true rfl⟩) hS (fun H locs hM hS => ?_)
                        have hF : (va_up (va_up (va_up f3 18 (upd (f3 18) ((8 * p0) + m0) (0 : Int32))) 19 (upd (f3 19) ((8 * p0) + m0) (0 : Int32))) 20 (upd (upd (upd (upd (f3 20) ((4 * ((8 * p0) + m0)) + 0) (-1 : Int32)) ((4 * ((8 * p0) + m0)) + 1) (-1 : Int32)) ((4 * ((8 * p0) + m0)) + 2) (-1 : Int32)) ((4 * ((8 * p0) + m0)) + 3) (-1 : Int32))) 10 = f 10 := ht3
                        simp only [hF] at hM ⊢
                        refine lv_istore_n (lv' := [(3, .int (bI (pB (tkP (f 10) sz (tkN (f 10) sz (we (f 10) sz j) (123 : Int32)) (125 : Int32))))), (2, .int (nI ((8 * p0) + m0))), (0, .ref h), (1, .int (nI p0))]) hx hb dX8_zones_121 rfl hl (by decide) rfl (fun ls hl => ?_)
                        refine lv_iload_n hx hb dX8_zones_122 rfl (lv_at hl 0 rfl) ?_
                        refine lv_if_ne (tgt := 146) hx hb dX8_zones_123 (by decide) (fun c5 => ?_) (fun c5 => ?_)
                        · have c5 : (pB (tkP (f 10) sz (tkN (f 10) sz (we (f 10) sz j) (123 : Int32)) (125 : Int32))) = true := bI_1.mp c5
                          refine lv_aload_n hx hb dX8_zones_146 rfl (lv_at hl 2 rfl) ?_
                          refine md_getr hx hb hts hin_wsX80 hown hC hM 17 (by decide) rfl fl_36 dX8_zones_147 ?_
                          refine lv_iload_n hx hb dX8_zones_150 rfl (lv_at hl 3 rfl) ?_
                          refine lv_dup2_11 hx hb dX8_zones_151 rfl rfl ?_
                          refine md_iald hx hb hC hM 17 rfl (j := p0) (by omega) (by decide) dX8_zones_152 ?_
                          refine mp_top (f3 17 p0) rfl ?_
                          refine mp_top (nI m0) hzf.2.1 ?_
                          refine lv_iconst (v := (1 : Int32)) hx hb dX8_zones_153 (by decide) ?_
                          refine lv_iadd hx hb dX8_zones_154 ?_
                          refine mp_top (nI (m0 + 1)) (nI_add m0 1) ?_
                          refine md_iast hx hb hC hM hS 17 rfl (j := p0) (by omega) (by decide) dX8_zones_155 (fun H locs hM hS => ?_)
                          have hM : mp_P G.1 A (md_M G B h ad (upd (upd (upd (upd (upd n3 13 (nI (tb (f 10) sz j))) 21 (nI (we (f 10) sz j))) 13 (nI (we (f 10) sz j))) 13 (nI (tkN (f 10) sz (we (f 10) sz j) (123 : Int32)))) 13 (nI (tkN (f 10) sz (tkN (f 10) sz (we (f 10) sz j) (123 : Int32)) (125 : Int32)))) (va_up (va_up (va_up (va_up f3 18 (upd (f3 18) ((8 * p0) + m0) (0 : Int32))) 19 (upd (f3 19) ((8 * p0) + m0) (0 : Int32))) 20 (upd (upd (upd (upd (f3 20) ((4 * ((8 * p0) + m0)) + 0) (-1 : Int32)) ((4 * ((8 * p0) + m0)) + 1) (-1 : Int32)) ((4 * ((8 * p0) + m0)) + 2) (-1 : Int32)) ((4 * ((8 * p0) + m0)) + 3) (-1 : Int32))) 17 (upd (f3 17) p0 (nI (m0 + 1))))) H := hM
                          refine lv_aload_n hx hb dX8_zones_156 rfl (lv_at hl 2 rfl) ?_
                          have hb_12 := tb_in (t := (f 10)) (sz := sz) (i := tkN (f 10) sz (tkN (f 10) sz (we (f 10) sz j) (123 : Int32)) (125 : Int32)) (by omega)
                          refine mp_callv (va_runV (As := []) (rest := []) ⟨hx, hb, hml, hown, hts⟩ (c_X8_blanks l X G A B h ad (upd (upd (upd (upd (upd n3 13 (nI (tb (f 10) sz j))) 21 (nI (we (f 10) sz j))) 13 (nI (we (f 10) sz j))) 13 (nI (tkN (f 10) sz (we (f 10) sz j) (123 : Int32)))) 13 (nI (tkN (f 10) sz (tkN (f 10) sz (we (f 10) sz j) (123 : Int32)) (125 : Int32)))) (va_up (va_up (va_up (va_up f3 18 (upd (f3 18) ((8 * p0) + m0) (0 : Int32))) 19 (upd (f3 19) ((8 * p0) + m0) (0 : Int32))) 20 (upd (upd (upd (upd (f3 20) ((4 * ((8 * p0) + m0)) + 0) (-1 : Int32)) ((4 * ((8 * p0) + m0)) + 1) (-1 : Int32)) ((4 * ((8 * p0) + m0)) + 2) (-1 : Int32)) ((4 * ((8 * p0) + m0)) + 3) (-1 : Int32))) 17 (upd (f3 17) p0 (nI (m0 + 1)))) sz (tkN (f 10) sz (tkN (f 10) sz (we (f 10) sz j) (123 : Int32)) (125 : Int32)) (by exact h12) (by omega) rfl (by omega)) (cwV 0 hts gX8_zones_X8_blanks rfl rfl rfl (by decide +kernel) ⟨Nat.le_of_ble_eq_true rfl, Nat.le_of_ble_eq_true rfl⟩) (mp_preV hC hS hM (md_recv hC hM)) rfl rfl hl.1 rfl (lv_room (Nat.le_of_ble_eq_true rfl)) dX8_zones_157 ⟨Nat.le_of_ble_eq_true rfl, Nat.le_of_ble_eq_true rfl⟩) hS (fun H locs hM hS => ?_)
                          have hF : (va_up (va_up (va_up (va_up f3 18 (upd (f3 18) ((8 * p0) + m0) (0 : Int32))) 19 (upd (f3 19) ((8 * p0) + m0) (0 : Int32))) 20 (upd (upd (upd (upd (f3 20) ((4 * ((8 * p0) + m0)) + 0) (-1 : Int32)) ((4 * ((8 * p0) + m0)) + 1) (-1 : Int32)) ((4 * ((8 * p0) + m0)) + 2) (-1 : Int32)) ((4 * ((8 * p0) + m0)) + 3) (-1 : Int32))) 17 (upd (f3 17) p0 (nI (m0 + 1)))) 10 = f 10 := ht3
                          simp only [hF] at hM ⊢
                          refine lv_goto (tgt := 11) hx hb dX8_zones_160 (by decide) ?_
                          have X1 : itA (f 10) sz (tkN (f 10) sz (we (f 10) sz j) 123) zr0 = (true, tkN (f 10) sz (tkN (f 10) sz (we (f 10) sz j) 123) 125, zr0) := (by rw [itA, c5, if_pos rfl])
                          have hia := itA_in (t := f 10) (sz := sz) (i := (tkN (f 10) sz (we (f 10) sz j) 123)) zr0 (by omega)
                          have hwe := we_in (t := f 10) (sz := sz) (i := j) (by omega)
                          have hgt := tk_gt (t := f 10) (sz := sz) (i := we (f 10) sz j) (c := 123) (by omega) (pB_iff.mp c4)
                          rw [X1] at hia
                          have hia1 : (tkN (f 10) sz (we (f 10) sz j) 123) ≤ tkN (f 10) sz (tkN (f 10) sz (we (f 10) sz j) 123) 125 := hia.1
                          have hia2 : tkN (f 10) sz (tkN (f 10) sz (we (f 10) sz j) 123) 125 ≤ sz := hia.2
                          have hbl := tb_in (t := f 10) (sz := sz) (i := tkN (f 10) sz (tkN (f 10) sz (we (f 10) sz j) 123) 125) hia2
                          exact ih (tb (f 10) sz (tkN (f 10) sz (tkN (f 10) sz (we (f 10) sz j) 123) 125)) (m0 + 1) (fu - 1) (va_up zs m0 (zr0)) (upd (upd (upd (upd (upd (upd n3 13 (nI (tb (f 10) sz j))) 21 (nI (we (f 10) sz j))) 13 (nI (we (f 10) sz j))) 13 (nI (tkN (f 10) sz (we (f 10) sz j) (123 : Int32)))) 13 (nI (tkN (f 10) sz (tkN (f 10) sz (we (f 10) sz j) (123 : Int32)) (125 : Int32)))) 13 (nI (tb (f 10) sz (tkN (f 10) sz (tkN (f 10) sz (we (f 10) sz j) (123 : Int32)) (125 : Int32))))) (va_up (va_up (va_up (va_up f3 18 (upd (f3 18) ((8 * p0) + m0) (0 : Int32))) 19 (upd (f3 19) ((8 * p0) + m0) (0 : Int32))) 20 (upd (upd (upd (upd (f3 20) ((4 * ((8 * p0) + m0)) + 0) (-1 : Int32)) ((4 * ((8 * p0) + m0)) + 1) (-1 : Int32)) ((4 * ((8 * p0) + m0)) + 2) (-1 : Int32)) ((4 * ((8 * p0) + m0)) + 3) (-1 : Int32))) 17 (upd (f3 17) p0 (nI (m0 + 1)))) ls _ _ (by omega) (by omega) (by omega) (by omega) (tb_tb hia2) rfl h12 (fun k h1 h2 h3 => (by simp [upd, h1, h2, h3]; exact hn3 k h1 h2 h3)) (ZF_more (ZF_zone hzf (zr0_at f3 ((8 * p0) + m0))) (zr0_at f3 ((8 * p0) + m0)).2.2.2) ht3 (by rw [hres, hfu, zoS, if_pos c1, pB_t ⟨c2, c3⟩, if_pos rfl, c4, if_pos rfl, X1, if_pos rfl]; rfl) hM hS (lv_sub hl [2, 3] rfl)
                        · have c5 : (pB (tkP (f 10) sz (tkN (f 10) sz (we (f 10) sz j) (123 : Int32)) (125 : Int32))) = false := bI_0.mp c5
                          have LP126 : ∀ (kk : Nat) (i2 fu2 : Nat) (r : zr) (n4 : Nat → Int32) (f4 : Nat → Nat → Int32) (ls : Array Slot) (H : Heap) (locs : List Loc), sz - i2 < kk → i2 ≤ sz → sz - i2 < fu2 → n4 13 = nI i2 → n4 12 = nI sz → nOK n n4 → ZF f f4 p0 m0 zs → zAt f4 ((8 * p0) + m0) r → f4 10 = f 10 → itA (f 10) sz (tkN (f 10) sz (we (f 10) sz j) 123) zr0 = itB (f 10) sz fu2 i2 r → mp_P G.1 A (md_M G B h ad n4 f4) H → va_S A s.heap H locs → lv_has ls 4 [(0, .ref h), (1, .int (nI p0)), (2, .int (nI ((8 * p0) + m0)))] → W p l e rmX8_zones s m ([.ref h, .int (nI p0)] : List Value).toArray below meth c H locs 0 0 (MQ below (mp_Q G.1 A (fun v1 M1 => ∃ n2 f2, M1 = md_M G B h ad n2 f2 ∧ v1 = some (.int (bI (zoS (f 10) sz 601 (tb (f 10) sz i) 0 (fun _ => zr0)).1)) ∧ n2 13 = nI (zoS (f 10) sz 601 (tb (f 10) sz i) 0 (fun _ => zr0)).2.1 ∧ nOK n n2 ∧ ZF f f2 p0 (zoS (f 10) sz 601 (tb (f 10) sz i) 0 (fun _ => zr0)).2.2.1 (zoS (f 10) sz 601 (tb (f 10) sz i) 0 (fun _ => zr0)).2.2.2)) ([.ref h, .int (nI p0)] : List Value).toArray s 0 0 A) (F0 m 126 ls []) := by
                            intro kk
                            induction kk with
                            | zero => intro i2 fu2 r n4 f4 ls H locs hk; exact absurd hk (Nat.not_lt_zero _)
                            | succ kk ih2 =>
                              intro i2 fu2 r n4 f4 ls H locs hk hi2 hfl2 h413 h412 hn4 hzf4 hz4 ht4 hr2 hM hS hl
                              have hfu2 : fu2 = (fu2 - 1) + 1 := by omega
                              refine lv_aload_n hx hb dX8_zones_126 rfl (lv_at hl 0 rfl) ?_
                              refine lv_iload_n hx hb dX8_zones_127 rfl (lv_at hl 2 rfl) ?_
                              refine mp_call (va_runV (As := [.int (nI ((8 * p0) + m0))]) (rest := []) ⟨hx, hb, hml, hown, hts⟩ (c_X8_item l X G A B h ad n4 f4 sz i2 h412 (by omega) h413 (by omega) ((8 * p0) + m0) (by omega) r hz4) (cwV 1 hts gX8_zones_X8_item rfl rfl rfl (by decide +kernel) ⟨Nat.le_of_ble_eq_true rfl, Nat.le_of_ble_eq_true rfl⟩) (mp_preV hC hS hM (md_recv hC hM)) rfl rfl hl.1 rfl (lv_room (Nat.le_of_ble_eq_true rfl)) dX8_zones_128 ⟨Nat.le_of_ble_eq_true rfl, Nat.le_of_ble_eq_true rfl⟩) hS (fun v M1 H locs hp hM hS => ?_)
                              obtain ⟨n2, f2, rfl, rfl, h213, hn2, hf2⟩ := hp
                              simp only [ht4] at h213 hf2 ⊢
                              have hi2 := itemS_in (t := f 10) (sz := sz) (i := i2) r (by omega)
                              have ht2 : f2 10 = f 10 := (hf2.1 10 (by decide) (by decide) (by decide)).trans ht4
                              have h212 : n2 12 = nI sz := (hn2 12 (by decide) (by decide) (by decide)).trans h412
                              try simp only [ht2] at hM ⊢
                              refine lv_if_ne (tgt := 136) hx hb dX8_zones_131 (by decide) (fun c6 => ?_) (fun c6 => ?_)
                              · have c6 : ((itemS (f 10) sz i2 r).1) = true := bI_1.mp c6
                                refine lv_aload_n hx hb dX8_zones_136 rfl (lv_at hl 0 rfl) ?_
                                refine lv_bipush (v := (125 : Int32)) hx hb dX8_zones_137 (by decide) ?_
                                have hb_13 := tk_in (t := (f 10)) (sz := sz) (i := (itemS (f 10) sz i2 r).2.1) (125 : Int32) (by omega)
                                have hb_14 := tb_in (t := (f 10)) (sz := sz) (i := (itemS (f 10) sz i2 r).2.1) (by omega)
                                refine mp_calli (va_runV (As := [.int (125 : Int32)]) (rest := []) ⟨hx, hb, hml, hown, hts⟩ (c_X8_takes l X G A B h ad n2 f2 sz ((itemS (f 10) sz i2 r).2.1) h212 (by omega) h213 (by omega) (125 : Int32)) (cwV 1 hts gX8_zones_X8_takes rfl rfl rfl (by decide +kernel) ⟨Nat.le_of_ble_eq_true rfl, Nat.le_of_ble_eq_true rfl⟩) (mp_preV hC hS hM (md_recv hC hM)) rfl rfl hl.1 rfl (lv_room (Nat.le_of_ble_eq_true rfl)) dX8_zones_139 ⟨Nat.le_of_ble_eq_true rfl, Nat.le_of_ble_eq_true rfl⟩) hS (fun H locs hM hS => ?_)
                                try simp only [ht2] at hM ⊢
                                refine lv_istore_n (lv' := [(3, .int (bI (pB (tkP (f 10) sz ((itemS (f 10) sz i2 r).2.1) (125 : Int32))))), (0, .ref h), (1, .int (nI p0)), (2, .int (nI ((8 * p0) + m0)))]) hx hb dX8_zones_142 rfl hl (by decide) rfl (fun ls hl => ?_)
                                refine lv_goto (tgt := 122) hx hb dX8_zones_143 (by decide) ?_
                                refine lv_iload_n hx hb dX8_zones_122 rfl (lv_at hl 0 rfl) ?_
                                refine lv_if_ne (tgt := 146) hx hb dX8_zones_123 (by decide) (fun c7 => ?_) (fun c7 => ?_)
                                · have c7 : (pB (tkP (f 10) sz ((itemS (f 10) sz i2 r).2.1) (125 : Int32))) = true := bI_1.mp c7
                                  refine lv_aload_n hx hb dX8_zones_146 rfl (lv_at hl 1 rfl) ?_
                                  refine md_getr hx hb hts hin_wsX80 hown hC hM 17 (by decide) rfl fl_36 dX8_zones_147 ?_
                                  refine lv_iload_n hx hb dX8_zones_150 rfl (lv_at hl 2 rfl) ?_
                                  refine lv_dup2_11 hx hb dX8_zones_151 rfl rfl ?_
                                  refine md_iald hx hb hC hM 17 rfl (j := p0) (by omega) (by decide) dX8_zones_152 ?_
                                  refine mp_top (nI m0) (ZF_zone hzf4 hf2).2.1 ?_
                                  refine lv_iconst (v := (1 : Int32)) hx hb dX8_zones_153 (by decide) ?_
                                  refine lv_iadd hx hb dX8_zones_154 ?_
                                  refine mp_top (nI (m0 + 1)) (nI_add m0 1) ?_
                                  refine md_iast hx hb hC hM hS 17 rfl (j := p0) (by omega) (by decide) dX8_zones_155 (fun H locs hM hS => ?_)
                                  have hM : mp_P G.1 A (md_M G B h ad (upd n2 13 (nI (tkN (f 10) sz ((itemS (f 10) sz i2 r).2.1) (125 : Int32)))) (va_up f2 17 (upd (f2 17) p0 (nI (m0 + 1))))) H := hM
                                  refine lv_aload_n hx hb dX8_zones_156 rfl (lv_at hl 1 rfl) ?_
                                  have hb_15 := tb_in (t := (f 10)) (sz := sz) (i := tkN (f 10) sz ((itemS (f 10) sz i2 r).2.1) (125 : Int32)) (by omega)
                                  refine mp_callv (va_runV (As := []) (rest := []) ⟨hx, hb, hml, hown, hts⟩ (c_X8_blanks l X G A B h ad (upd n2 13 (nI (tkN (f 10) sz ((itemS (f 10) sz i2 r).2.1) (125 : Int32)))) (va_up f2 17 (upd (f2 17) p0 (nI (m0 + 1)))) sz (tkN (f 10) sz ((itemS (f 10) sz i2 r).2.1) (125 : Int32)) (by exact h212) (by omega) rfl (by omega)) (cwV 0 hts gX8_zones_X8_blanks rfl rfl rfl (by decide +kernel) ⟨Nat.le_of_ble_eq_true rfl, Nat.le_of_ble_eq_true rfl⟩) (mp_preV hC hS hM (md_recv hC hM)) rfl rfl hl.1 rfl (lv_room (Nat.le_of_ble_eq_true rfl)) dX8_zones_157 ⟨Nat.le_of_ble_eq_true rfl, Nat.le_of_ble_eq_true rfl⟩) hS (fun H locs hM hS => ?_)
                                  have hF : (va_up f2 17 (upd (f2 17) p0 (nI (m0 + 1)))) 10 = f 10 := ht2
                                  simp only [hF] at hM ⊢
                                  refine lv_goto (tgt := 11) hx hb dX8_zones_160 (by decide) ?_
                                  have X1 : itA (f 10) sz (tkN (f 10) sz (we (f 10) sz j) 123) zr0 = (true, tkN (f 10) sz (itemS (f 10) sz i2 r).2.1 125, (itemS (f 10) sz i2 r).2.2) := (by rw [hr2, hfu2, itB, c6, if_pos rfl, c7, if_pos rfl])
                                  have hia := itA_in (t := f 10) (sz := sz) (i := (tkN (f 10) sz (we (f 10) sz j) 123)) zr0 (by omega)
                                  have hwe := we_in (t := f 10) (sz := sz) (i := j) (by omega)
                                  have hgt := tk_gt (t := f 10) (sz := sz) (i := we (f 10) sz j) (c := 123) (by omega) (pB_iff.mp c4)
                                  rw [X1] at hia
                                  have hia1 : (tkN (f 10) sz (we (f 10) sz j) 123) ≤ tkN (f 10) sz (itemS (f 10) sz i2 r).2.1 125 := hia.1
                                  have hia2 : tkN (f 10) sz (itemS (f 10) sz i2 r).2.1 125 ≤ sz := hia.2
                                  have hbl := tb_in (t := f 10) (sz := sz) (i := tkN (f 10) sz (itemS (f 10) sz i2 r).2.1 125) hia2
                                  exact ih (tb (f 10) sz (tkN (f 10) sz (itemS (f 10) sz i2 r).2.1 125)) (m0 + 1) (fu - 1) (va_up zs m0 ((itemS (f 10) sz i2 r).2.2)) (upd (upd n2 13 (nI (tkN (f 10) sz ((itemS (f 10) sz i2 r).2.1) (125 : Int32)))) 13 (nI (tb (f 10) sz (tkN (f 10) sz ((itemS (f 10) sz i2 r).2.1) (125 : Int32))))) (va_up f2 17 (upd (f2 17) p0 (nI (m0 + 1)))) ls _ _ (by omega) (by omega) (by omega) (by omega) (tb_tb hia2) rfl h212 (fun k h1 h2 h3 => (by simp [upd, h1, h2, h3]; exact (hn2 k h1 h2 h3).trans (hn4 k h1 h2 h3))) (ZF_more (ZF_zone hzf4 hf2) hf2.2.2.2) ht2 (by rw [hres, hfu, zoS, if_pos c1, pB_t ⟨c2, c3⟩, if_pos rfl, c4, if_pos rfl, X1, if_pos rfl]; rfl) hM hS (lv_sub hl [1, 2] rfl)
                                · have c7 : (pB (tkP (f 10) sz ((itemS (f 10) sz i2 r).2.1) (125 : Int32))) = false := bI_0.mp c7
                                  have hpr := hi2.2.2 c6
                                  exact ih2 (tkN (f 10) sz (itemS (f 10) sz i2 r).2.1 125) (fu2 - 1) (itemS (f 10) sz i2 r).2.2 (upd n2 13 (nI (tkN (f 10) sz ((itemS (f 10) sz i2 r).2.1) (125 : Int32)))) f2 ls _ _ (by omega) (by omega) (by omega) rfl h212 (fun k h1 h2 h3 => (by simp [upd, h1, h2, h3]; exact (hn2 k h1 h2 h3).trans (hn4 k h1 h2 h3))) (ZF_zone hzf4 hf2) hf2.2.2.2 ht2 (by rw [hr2, hfu2, itB, c6, if_pos rfl, c7, if_neg (by decide)]; rfl) hM hS (lv_sub hl [1, 2, 3] rfl)
                              · have c6 : ((itemS (f 10) sz i2 r).1) = false := bI_0.mp c6
                                refine lv_iconst (v := (0 : Int32)) hx hb dX8_zones_134 (by decide) ?_
                                exact mp_zret hx hb hr hlocks (Nat.le_of_ble_eq_true rfl) (Nat.le_of_ble_eq_true rfl) hM hS dX8_zones_135 (by first | rfl | exact bI_nar _) (have X1 : itA (f 10) sz (tkN (f 10) sz (we (f 10) sz j) 123) zr0 = (false, (itemS (f 10) sz i2 r).2.1, (itemS (f 10) sz i2 r).2.2) := (by rw [hr2, hfu2, itB, c6, if_neg (by decide)]); have E : zoS (f 10) sz 601 (tb (f 10) sz i) 0 (fun _ => zr0) = (false, (itemS (f 10) sz i2 r).2.1, m0, zs) := (by rw [hres, hfu, zoS, if_pos c1, pB_t ⟨c2, c3⟩, if_pos rfl, c4, if_pos rfl, X1, if_neg Bool.false_ne_true]); ⟨n2, f2, rfl, by rw [E] <;> rfl, by rw [E]; exact h213, fun k h1 h2 h3 => (hn2 k h1 h2 h3).trans (hn4 k h1 h2 h3), by rw [E]; exact ZF_zone hzf4 hf2⟩)
                          exact LP126 _ (tkN (f 10) sz (tkN (f 10) sz (we (f 10) sz j) 123) 125) 601 zr0 (upd (upd (upd (upd (upd n3 13 (nI (tb (f 10) sz j))) 21 (nI (we (f 10) sz j))) 13 (nI (we (f 10) sz j))) 13 (nI (tkN (f 10) sz (we (f 10) sz j) (123 : Int32)))) 13 (nI (tkN (f 10) sz (tkN (f 10) sz (we (f 10) sz j) (123 : Int32)) (125 : Int32)))) (va_up (va_up (va_up f3 18 (upd (f3 18) ((8 * p0) + m0) (0 : Int32))) 19 (upd (f3 19) ((8 * p0) + m0) (0 : Int32))) 20 (upd (upd (upd (upd (f3 20) ((4 * ((8 * p0) + m0)) + 0) (-1 : Int32)) ((4 * ((8 * p0) + m0)) + 1) (-1 : Int32)) ((4 * ((8 * p0) + m0)) + 2) (-1 : Int32)) ((4 * ((8 * p0) + m0)) + 3) (-1 : Int32))) ls _ _ (Nat.lt_succ_self _) (by omega) (by omega) rfl h12 (fun k h1 h2 h3 => (by simp [upd, h1, h2, h3]; exact hn3 k h1 h2 h3)) (ZF_zone hzf (zr0_at f3 ((8 * p0) + m0))) (zr0_at f3 ((8 * p0) + m0)).2.2.2 ht3 (by rw [itA, c5, if_neg (by decide)]) hM hS (lv_sub hl [2, 3, 1] rfl)
                      · have c_9 := c_9
                        exact absurd c_9 (by decide)
            · have c4 : (pB (tkP (f 10) sz (we (f 10) sz j) (123 : Int32))) = false := bI_0.mp c4
              refine lv_iconst (v := (0 : Int32)) hx hb dX8_zones_63 (by decide) ?_
              exact mp_zret hx hb hr hlocks (Nat.le_of_ble_eq_true rfl) (Nat.le_of_ble_eq_true rfl) hM hS dX8_zones_64 (by first | rfl | exact bI_nar _) (have E : zoS (f 10) sz 601 (tb (f 10) sz i) 0 (fun _ => zr0) = (false, (tkN (f 10) sz (we (f 10) sz j) 123), m0, zs) := (by rw [hres, hfu, zoS, if_pos c1, pB_t ⟨c2, c3⟩, if_pos rfl, c4, if_neg (by decide)]); ⟨_, f3, rfl, by rw [E] <;> rfl, by rw [E] <;> rfl, (fun k h1 h2 h3 => (by simp [upd, h1, h2, h3]; exact hn3 k h1 h2 h3)), by rw [E]; exact hzf⟩)
          · have c3 := nn_eq (a := m0) (b := 8) (by omega) (by omega) c3
            refine lv_iconst (v := (0 : Int32)) hx hb dX8_zones_44 (by decide) ?_
            exact mp_zret hx hb hr hlocks (Nat.le_of_ble_eq_true rfl) (Nat.le_of_ble_eq_true rfl) hM hS dX8_zones_45 (by first | rfl | exact bI_nar _) (have E : zoS (f 10) sz 601 (tb (f 10) sz i) 0 (fun _ => zr0) = (false, tb (f 10) sz j, m0, zs) := (by rw [hres, hfu, zoS, if_pos c1, pB_f (fun z => z.2 c3), if_neg (by decide)]); ⟨_, f3, rfl, by rw [E] <;> rfl, by rw [E] <;> rfl, (fun k h1 h2 h3 => (by simp [upd, h1, h2, h3]; exact hn3 k h1 h2 h3)), by rw [E]; exact hzf⟩)
  exact LP11 _ (tb (f 10) sz i) 0 601 (fun _ => zr0) (upd n 13 (nI (tb (f 10) sz i))) (va_up f 17 (upd (f 17) p0 (0 : Int32))) ls _ _ (Nat.lt_succ_self _) (by omega) (by omega) (by omega) (tb_tb hi9) rfl hsz (fun k h1 h2 h3 => (by simp [upd, h1, h2, h3])) ⟨fun k k1 _ _ _ => va_up_ne _ _ k1, pk_us, fun o ho => pk_un ho, fun _ _ => ⟨rfl, rfl⟩, fun _ _ => rfl, fun j hj => absurd hj (Nat.not_lt_zero j)⟩ rfl rfl hM hS (lv_sub hl [0, 1] rfl)
