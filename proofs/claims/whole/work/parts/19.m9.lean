def cpF (g e : Nat → Int32) (k : Nat) : Nat → Int32 := fun j => if j < k then g j else e j
theorem cp_succ (g e : Nat → Int32) (k : Nat) : upd (cpF g e k) k (g k) = cpF g e (k + 1) := by
  funext j
  by_cases h : j = k
  · subst h; simp [upd, cpF]
  · by_cases h2 : j < k
    · simp [upd, cpF, h, h2, Nat.lt_succ_of_lt h2]
    · have h3 : ¬ j < k + 1 := by omega
      simp [upd, cpF, h, h2, h3]
theorem cp_0 (g e : Nat → Int32) : cpF g e 0 = e := by
  funext j; simp [cpF]
noncomputable def adX (t : Nat → Int32) (sz : Nat) : Bool × Nat × Nat × (Nat → zr) := zoS t sz 601 (tb t sz 0) 0 (fun _ => zr0)
/-- an adoption: the answer, the numbers and rows behind it -/
def AD (n : Nat → Int32) (f : Nat → Nat → Int32) (t0 pn : Nat) (q w v : Int32) (n2 : Nat → Int32) (f2 : Nat → Nat → Int32) : Prop :=
  (¬ (md_in q 0 (nI t0) ∧ md_in w 0 9999) ∧ v = -2 ∧ n2 = n ∧ f2 = f) ∨ ((md_in q 0 (nI t0) ∧ md_in w 0 9999) ∧ pn = 20 ∧ v = -3 ∧ n2 = n ∧ f2 = f) ∨
  ∃ sz, sz ≤ t0 ∧ q = nI sz ∧ md_in w 0 9999 ∧ pn ≠ 20 ∧ (∀ k, k ≠ 3 → k ≠ 11 → k ≠ 12 → k ≠ 13 → k ≠ 14 → k ≠ 21 → k ≠ 22 → n2 k = n k) ∧ n2 11 = 0 ∧
    (((adX (cpF (f 9) (f 10) sz) sz).1 = false ∧ v = -1 ∧ n2 3 = nI pn ∧ n2 14 = nI (adX (cpF (f 9) (f 10) sz) sz).2.1 ∧ ∃ m zs, ZF (va_up f 10 (cpF (f 9) (f 10) sz)) f2 pn m zs) ∨
     ((adX (cpF (f 9) (f 10) sz) sz).1 = true ∧ v = nI pn ∧ n2 3 = nI (pn + 1) ∧ n2 14 = -1 ∧ ∃ f3, ZF (va_up f 10 (cpF (f 9) (f 10) sz)) f3 pn (adX (cpF (f 9) (f 10) sz) sz).2.2.1 (adX (cpF (f 9) (f 10) sz) sz).2.2.2 ∧ f2 = va_up (va_up f3 15 (upd (f3 15) pn w)) 16 (upd (f3 16) pn (n 0))))
abbrev rmX8_adopt : Room := { frames := 4, cells := 0, slots := 0, locals := 91 }
set_option maxHeartbeats 4000000 in
set_option maxRecDepth 100000 in
theorem c_X8_adopt (l : Launch) (X : mp_X) (G : mp_G) (A : Nat → Prop) (B : mp_M) (h : Nat) (ad : Nat → Nat) (n : Nat → Int32) (f : Nat → Nat → Int32) (t0 pn : Nat) (ht0 : n 11 = nI t0) (ht9 : t0 ≤ 600) (hpn : n 3 = nI pn) (hpn9 : pn ≤ 20) (hby : ∀ j, vp_nar .byte (f 9 j) = f 9 j) (q w : Int32) : mp_Met l X G A yX8_adopt wsX8_adopt rmX8_adopt ([.ref h, .int q, .int w] : List Value) (md_M G B h ad n f) (fun v1 M1 => ∃ v n2 f2, M1 = md_M G B h ad n2 f2 ∧ v1 = some (.int v) ∧ AD n f t0 pn q w v n2 f2) 0 0 := by
  refine mp_ofW (cc := cX8_adopt) (maxL := 4) (ret := (some .int)) (by decide) rfl (Nat.le_of_ble_eq_true rfl) ?_
  intro p e s m below meth c ls hx hb hr hts hown hlocks hnm hml hC hM hS hl
  have hl : lv_has ls 4 [(0, .ref h), (1, .int q), (2, .int w)] := hl
  have hown : s.vm.findClass RX8 = some m.cls := hown
  have fl_160 := hts (.fieldLink RX8 160 "PlanningBenchModel" "taped" "I") (List.mem_of_getElem? (i := 1) rfl)
  have hin_wsX80 : ∀ w ∈ wsX80, w ∈ wsX8_adopt := fun _ h => List.mem_cons_of_mem _ (List.mem_append_right _ h)
  have fl_219 := hts (.fieldLink RX8 219 "PlanningBenchModel" "plans" "I") (List.mem_of_getElem? (i := 2) rfl)
  have fl_170 := hts (.fieldLink RX8 170 "PlanningBenchModel" "size" "I") (List.mem_of_getElem? (i := 5) rfl)
  have fl_167 := hts (.fieldLink RX8 167 "PlanningBenchModel" "at" "I") (List.mem_of_getElem? (i := 6) rfl)
  have fl_26 := hts (.fieldLink RX8 26 "PlanningBenchModel" "fault" "I") (List.mem_of_getElem? (i := 7) rfl)
  have fl_30 := hts (.fieldLink RX8 30 "PlanningBenchModel" "planFrom" "[I") (List.mem_of_getElem? (i := 8) rfl)
  have fl_33 := hts (.fieldLink RX8 33 "PlanningBenchModel" "planKnown" "[I") (List.mem_of_getElem? (i := 9) rfl)
  have fl_125 := hts (.fieldLink RX8 125 "PlanningBenchModel" "today" "I") (List.mem_of_getElem? (i := 10) rfl)
  have fl_23 := hts (.fieldLink RX8 23 "PlanningBenchModel" "text" "[B") (List.mem_of_getElem? (i := 3) rfl)
  have fl_19 := hts (.fieldLink RX8 19 "PlanningBenchModel" "tape" "[B") (List.mem_of_getElem? (i := 4) rfl)
  refine lv_iload_n hx hb dX8_adopt_0 rfl (lv_at hl 1 rfl) ?_
  refine lv_iconst (v := (0 : Int32)) hx hb dX8_adopt_1 (by decide) ?_
  refine lv_aload_n hx hb dX8_adopt_2 rfl (lv_at hl 0 rfl) ?_
  refine md_geti hx hb hts hin_wsX80 hown hC hM 11 (by decide) rfl fl_160 dX8_adopt_3 ?_
  refine mp_top (nI t0) ht0 ?_
  refine mp_calli (va_runS (As := [.int q, .int (0 : Int32), .int (nI t0)]) (rest := []) ⟨hx, hb, hml, hown, hts⟩ (c_X8_isIn l X G A (md_M G B h ad n f) q (0 : Int32) (nI t0)) (va_cwS 3 hts gX8_adopt_X8_isIn rfl rfl rfl (by decide +kernel) ⟨Nat.le_of_ble_eq_true rfl, Nat.le_of_ble_eq_true rfl⟩) (mp_preS hC hS hM) rfl rfl hl.1 rfl (lv_room (Nat.le_of_ble_eq_true rfl)) dX8_adopt_6 ⟨Nat.le_of_ble_eq_true rfl, Nat.le_of_ble_eq_true rfl⟩) hS (fun H locs hM hS => ?_)
  refine lv_if_eq (tgt := 19) hx hb dX8_adopt_9 (by decide) (fun c1 => ?_) (fun c1 => ?_)
  · have c1 : (pB (md_in q (0 : Int32) (nI t0))) = false := bI_0.mp c1
    refine lv_bipush (v := (-2 : Int32)) hx hb dX8_adopt_19 (by decide) ?_
    exact mp_iret hx hb hr hlocks (Nat.le_of_ble_eq_true rfl) (Nat.le_of_ble_eq_true rfl) hM hS dX8_adopt_21 (⟨-2, n, f, rfl, rfl, Or.inl ⟨fun z => pB_not.mp c1 z.1, rfl, rfl, rfl⟩⟩)
  · have c1 : (pB (md_in q (0 : Int32) (nI t0))) = true := bI_1.mp c1
    refine lv_iload_n hx hb dX8_adopt_12 rfl (lv_at hl 2 rfl) ?_
    refine mp_calli (va_runS (As := [.int w]) (rest := []) ⟨hx, hb, hml, hown, hts⟩ (c_X8_isDay l X G A (md_M G B h ad n f) w) (va_cwS 1 hts gX8_adopt_X8_isDay rfl rfl rfl (by decide +kernel) ⟨Nat.le_of_ble_eq_true rfl, Nat.le_of_ble_eq_true rfl⟩) (mp_preS hC hS hM) rfl rfl hl.1 rfl (lv_room (Nat.le_of_ble_eq_true rfl)) dX8_adopt_13 ⟨Nat.le_of_ble_eq_true rfl, Nat.le_of_ble_eq_true rfl⟩) hS (fun H locs hM hS => ?_)
    refine lv_if_ne (tgt := 22) hx hb dX8_adopt_16 (by decide) (fun c2 => ?_) (fun c2 => ?_)
    · have c2 : (pB (md_in w 0 9999)) = true := bI_1.mp c2
      obtain ⟨sz, hsz9, e_q⟩ := nI_of2 (x := q) (M := nI t0) (n := t0) (nI_toInt (by omega)) (i_nlt.mpr (pB_iff.mp c1).1) (pB_iff.mp c1).2
      subst e_q
      refine lv_aload_n hx hb dX8_adopt_22 rfl (lv_at hl 0 rfl) ?_
      refine md_geti hx hb hts hin_wsX80 hown hC hM 3 (by decide) rfl fl_219 dX8_adopt_23 ?_
      refine mp_top (nI pn) hpn ?_
      refine lv_bipush (v := (20 : Int32)) hx hb dX8_adopt_26 (by decide) ?_
      refine lv_icmp_ne (tgt := 34) hx hb dX8_adopt_28 (by decide) (fun c3 => ?_) (fun c3 => ?_)
      · have c3 := nn_neq (a := pn) (b := 20) (by omega) (by omega) c3
        refine lv_iconst (v := (0 : Int32)) hx hb dX8_adopt_34 (by decide) ?_
        refine lv_istore_n (lv' := [(3, .int (0 : Int32)), (0, .ref h), (1, .int (nI sz)), (2, .int w)]) hx hb dX8_adopt_35 rfl hl (by decide) rfl (fun ls hl => ?_)
        have LP36 : ∀ (kk : Nat) (k : Nat) (ls : Array Slot) (H : Heap) (locs : List Loc), sz - k < kk → k ≤ sz → mp_P G.1 A (md_M G B h ad n (va_up f 10 (cpF (f 9) (f 10) k))) H → va_S A s.heap H locs → lv_has ls 4 [(0, .ref h), (1, .int (nI sz)), (2, .int w), (3, .int (nI k))] → W p l e rmX8_adopt s m ([.ref h, .int (nI sz), .int w] : List Value).toArray below meth c H locs 0 0 (MQ below (mp_Q G.1 A (fun v1 M1 => ∃ v n2 f2, M1 = md_M G B h ad n2 f2 ∧ v1 = some (.int v) ∧ AD n f t0 pn (nI sz) w v n2 f2)) ([.ref h, .int (nI sz), .int w] : List Value).toArray s 0 0 A) (F0 m 36 ls []) := by
          intro kk
          induction kk with
          | zero => intro k ls H locs hk; exact absurd hk (Nat.not_lt_zero _)
          | succ kk ih =>
            intro k ls H locs hk hkz hM hS hl
            refine lv_iload_n hx hb dX8_adopt_36 rfl (lv_at hl 3 rfl) ?_
            refine lv_iload_n hx hb dX8_adopt_37 rfl (lv_at hl 1 rfl) ?_
            refine lv_icmp_ge (tgt := 59) hx hb dX8_adopt_38 (by decide) (fun c4 => ?_) (fun c4 => ?_)
            · have c4 := nn_le (a := sz) (b := k) (by omega) (by omega) c4
              have ek : k = sz := by omega
              rw [ek] at hM
              refine lv_aload_n hx hb dX8_adopt_59 rfl (lv_at hl 0 rfl) ?_
              refine lv_iload_n hx hb dX8_adopt_60 rfl (lv_at hl 1 rfl) ?_
              refine md_puti hx hb hts hin_wsX80 hown hC hM hS 12 (by decide) rfl rfl rfl fl_170 dX8_adopt_61 (fun H locs hM hS => ?_)
              refine lv_aload_n hx hb dX8_adopt_64 rfl (lv_at hl 0 rfl) ?_
              refine lv_iconst (v := (0 : Int32)) hx hb dX8_adopt_65 (by decide) ?_
              refine md_puti hx hb hts hin_wsX80 hown hC hM hS 11 (by decide) rfl rfl rfl fl_160 dX8_adopt_66 (fun H locs hM hS => ?_)
              refine lv_aload_n hx hb dX8_adopt_69 rfl (lv_at hl 0 rfl) ?_
              refine lv_iconst (v := (0 : Int32)) hx hb dX8_adopt_70 (by decide) ?_
              refine md_puti hx hb hts hin_wsX80 hown hC hM hS 13 (by decide) rfl rfl rfl fl_167 dX8_adopt_71 (fun H locs hM hS => ?_)
              refine lv_aload_n hx hb dX8_adopt_74 rfl (lv_at hl 0 rfl) ?_
              refine lv_aload_n hx hb dX8_adopt_75 rfl (lv_at hl 0 rfl) ?_
              refine md_geti hx hb hts hin_wsX80 hown hC hM 3 (by decide) rfl fl_219 dX8_adopt_76 ?_
              refine mp_top (n 3) rfl ?_
              refine mp_top (nI pn) hpn ?_
              refine mp_call (va_runV (As := [.int (nI pn)]) (rest := []) ⟨hx, hb, hml, hown, hts⟩ (c_X8_zones l X G A B h ad (upd (upd (upd n 12 (nI sz)) 11 (0 : Int32)) 13 (0 : Int32)) (va_up f 10 (cpF (f 9) (f 10) sz)) sz 0 rfl (by omega) rfl (by omega) pn (by omega)) (cwV 1 hts gX8_adopt_X8_zones rfl rfl rfl (by decide +kernel) ⟨Nat.le_of_ble_eq_true rfl, Nat.le_of_ble_eq_true rfl⟩) (mp_preV hC hS hM (md_recv hC hM)) rfl rfl hl.1 rfl (lv_room (Nat.le_of_ble_eq_true rfl)) dX8_adopt_79 ⟨Nat.le_of_ble_eq_true rfl, Nat.le_of_ble_eq_true rfl⟩) hS (fun v M1 H locs hp hM hS => ?_)
              obtain ⟨n2, f2, rfl, rfl, h213, hn2, hf2⟩ := hp
              simp only [va_up_self] at h213 hf2 ⊢
              have h213 : n2 13 = nI (adX (cpF (f 9) (f 10) sz) sz).2.1 := h213
              have hf2 : ZF (va_up f 10 (cpF (f 9) (f 10) sz)) f2 pn (adX (cpF (f 9) (f 10) sz) sz).2.2.1 (adX (cpF (f 9) (f 10) sz) sz).2.2.2 := hf2
              have hn23 : n2 3 = nI pn := (hn2 3 (by decide) (by decide) (by decide)).trans hpn
              have hn211 : n2 11 = 0 := hn2 11 (by decide) (by decide) (by decide)
              have hn20 : n2 0 = n 0 := hn2 0 (by decide) (by decide) (by decide)
              refine lv_istore_n (lv' := [(3, .int (bI ((adX (cpF (f 9) (f 10) sz) sz).1))), (0, .ref h), (1, .int (nI sz)), (2, .int w)]) hx hb dX8_adopt_82 rfl hl (by decide) rfl (fun ls hl => ?_)
              refine lv_aload_n hx hb dX8_adopt_83 rfl (lv_at hl 1 rfl) ?_
              refine lv_iload_n hx hb dX8_adopt_84 rfl (lv_at hl 0 rfl) ?_
              refine lv_if_eq (tgt := 92) hx hb dX8_adopt_85 (by decide) (fun c5 => ?_) (fun c5 => ?_)
              · have c5 : ((adX (cpF (f 9) (f 10) sz) sz).1) = false := bI_0.mp c5
                refine lv_aload_n hx hb dX8_adopt_92 rfl (lv_at hl 1 rfl) ?_
                refine md_geti hx hb hts hin_wsX80 hown hC hM 13 (by decide) rfl fl_167 dX8_adopt_93 ?_
                refine mp_top (nI ((adX (cpF (f 9) (f 10) sz) sz).2.1)) h213 ?_
                refine md_puti hx hb hts hin_wsX80 hown hC hM hS 14 (by decide) rfl rfl rfl fl_26 dX8_adopt_96 (fun H locs hM hS => ?_)
                refine lv_iload_n hx hb dX8_adopt_99 rfl (lv_at hl 0 rfl) ?_
                refine lv_if_ne (tgt := 105) hx hb dX8_adopt_100 (by decide) (fun c6 => ?_) (fun c6 => ?_)
                · have c6 : ((adX (cpF (f 9) (f 10) sz) sz).1) = true := bI_1.mp c6
                  exact absurd c6 (by rw [c5]; decide)
                · have c6 : ((adX (cpF (f 9) (f 10) sz) sz).1) = false := bI_0.mp c6
                  refine lv_iconst (v := (-1 : Int32)) hx hb dX8_adopt_103 (by decide) ?_
                  exact mp_iret hx hb hr hlocks (Nat.le_of_ble_eq_true rfl) (Nat.le_of_ble_eq_true rfl) hM hS dX8_adopt_104 (⟨-1, _, f2, rfl, rfl, Or.inr (Or.inr ⟨sz, hsz9, rfl, pB_iff.mp c2, c3, (fun k k1 k2 k3 k4 k5 k6 k7 => (by simp [upd, k1, k5]; exact (hn2 k k4 k6 k7).trans (by simp [upd, k2, k3, k4]))), hn211, Or.inl ⟨c5, rfl, hn23, rfl, _, _, hf2⟩⟩)⟩)
              · have c5 : ((adX (cpF (f 9) (f 10) sz) sz).1) = true := bI_1.mp c5
                refine lv_iconst (v := (-1 : Int32)) hx hb dX8_adopt_88 (by decide) ?_
                refine lv_goto (tgt := 96) hx hb dX8_adopt_89 (by decide) ?_
                refine md_puti hx hb hts hin_wsX80 hown hC hM hS 14 (by decide) rfl rfl rfl fl_26 dX8_adopt_96 (fun H locs hM hS => ?_)
                refine lv_iload_n hx hb dX8_adopt_99 rfl (lv_at hl 0 rfl) ?_
                refine lv_if_ne (tgt := 105) hx hb dX8_adopt_100 (by decide) (fun c6 => ?_) (fun c6 => ?_)
                · have c6 : ((adX (cpF (f 9) (f 10) sz) sz).1) = true := bI_1.mp c6
                  refine lv_aload_n hx hb dX8_adopt_105 rfl (lv_at hl 1 rfl) ?_
                  refine md_getr hx hb hts hin_wsX80 hown hC hM 15 (by decide) rfl fl_30 dX8_adopt_106 ?_
                  refine lv_aload_n hx hb dX8_adopt_109 rfl (lv_at hl 1 rfl) ?_
                  refine md_geti hx hb hts hin_wsX80 hown hC hM 3 (by decide) rfl fl_219 dX8_adopt_110 ?_
                  refine mp_top (n2 3) rfl ?_
                  refine mp_top (nI pn) hn23 ?_
                  refine lv_iload_n hx hb dX8_adopt_113 rfl (lv_at hl 3 rfl) ?_
                  refine md_iast hx hb hC hM hS 15 rfl (j := pn) (by omega) (by decide) dX8_adopt_114 (fun H locs hM hS => ?_)
                  have hM : mp_P G.1 A (md_M G B h ad (upd n2 14 (-1 : Int32)) (va_up f2 15 (upd (f2 15) pn w))) H := hM
                  refine lv_aload_n hx hb dX8_adopt_115 rfl (lv_at hl 1 rfl) ?_
                  refine md_getr hx hb hts hin_wsX80 hown hC hM 16 (by decide) rfl fl_33 dX8_adopt_116 ?_
                  refine lv_aload_n hx hb dX8_adopt_119 rfl (lv_at hl 1 rfl) ?_
                  refine md_geti hx hb hts hin_wsX80 hown hC hM 3 (by decide) rfl fl_219 dX8_adopt_120 ?_
                  refine mp_top (n2 3) rfl ?_
                  refine mp_top (nI pn) hn23 ?_
                  refine lv_aload_n hx hb dX8_adopt_123 rfl (lv_at hl 1 rfl) ?_
                  refine md_geti hx hb hts hin_wsX80 hown hC hM 0 (by decide) rfl fl_125 dX8_adopt_124 ?_
                  refine mp_top (n2 0) rfl ?_
                  refine md_iast hx hb hC hM hS 16 rfl (j := pn) (by omega) (by decide) dX8_adopt_127 (fun H locs hM hS => ?_)
                  have hM : mp_P G.1 A (md_M G B h ad (upd n2 14 (-1 : Int32)) (va_up (va_up f2 15 (upd (f2 15) pn w)) 16 (upd (f2 16) pn (n2 0)))) H := hM
                  refine lv_aload_n hx hb dX8_adopt_128 rfl (lv_at hl 1 rfl) ?_
                  refine lv_dup hx hb dX8_adopt_129 rfl ?_
                  refine md_geti hx hb hts hin_wsX80 hown hC hM 3 (by decide) rfl fl_219 dX8_adopt_130 ?_
                  refine mp_top (n2 3) rfl ?_
                  refine mp_top (nI pn) hn23 ?_
                  refine lv_iconst (v := (1 : Int32)) hx hb dX8_adopt_133 (by decide) ?_
                  refine lv_iadd hx hb dX8_adopt_134 ?_
                  refine mp_top (nI (pn + 1)) (nI_add pn 1) ?_
                  refine md_puti hx hb hts hin_wsX80 hown hC hM hS 3 (by decide) rfl rfl rfl fl_219 dX8_adopt_135 (fun H locs hM hS => ?_)
                  refine lv_aload_n hx hb dX8_adopt_138 rfl (lv_at hl 1 rfl) ?_
                  refine md_geti hx hb hts hin_wsX80 hown hC hM 3 (by decide) rfl fl_219 dX8_adopt_139 ?_
                  refine mp_top (nI (pn + 1)) rfl ?_
                  refine lv_iconst (v := (1 : Int32)) hx hb dX8_adopt_142 (by decide) ?_
                  refine lv_isub hx hb dX8_adopt_143 ?_
                  refine mp_top (nI pn) (by first | rfl | exact pk_sub (a := pn + 1) (b := 1) (by omega)) ?_
                  exact mp_iret hx hb hr hlocks (Nat.le_of_ble_eq_true rfl) (Nat.le_of_ble_eq_true rfl) hM hS dX8_adopt_144 (⟨nI pn, _, _, rfl, rfl, Or.inr (Or.inr ⟨sz, hsz9, rfl, pB_iff.mp c2, c3, (fun k k1 k2 k3 k4 k5 k6 k7 => (by simp [upd, k1, k5]; exact (hn2 k k4 k6 k7).trans (by simp [upd, k2, k3, k4]))), hn211, Or.inr ⟨c5, rfl, rfl, rfl, f2, hf2, by rw [← hn20]⟩⟩)⟩)
                · have c6 : ((adX (cpF (f 9) (f 10) sz) sz).1) = false := bI_0.mp c6
                  exact absurd c6 (by rw [c5]; decide)
            · have c4 := nn_nle (a := sz) (b := k) (by omega) (by omega) c4
              refine lv_aload_n hx hb dX8_adopt_41 rfl (lv_at hl 0 rfl) ?_
              refine md_getr hx hb hts hin_wsX80 hown hC hM 10 (by decide) rfl fl_23 dX8_adopt_42 ?_
              refine lv_iload_n hx hb dX8_adopt_45 rfl (lv_at hl 3 rfl) ?_
              refine lv_aload_n hx hb dX8_adopt_46 rfl (lv_at hl 0 rfl) ?_
              refine md_getr hx hb hts hin_wsX80 hown hC hM 9 (by decide) rfl fl_19 dX8_adopt_47 ?_
              refine lv_iload_n hx hb dX8_adopt_50 rfl (lv_at hl 3 rfl) ?_
              refine md_bald hx hb hC hM 9 rfl (j := k) (by omega) (by decide) dX8_adopt_51 ?_
              refine mp_top (f 9 k) rfl ?_
              refine md_bast hx hb hC hM hS 10 rfl (j := k) (by omega) (by decide) dX8_adopt_52 (fun H locs hM hS => ?_)
              rw [bx_uu] at hM
              have hM : mp_P G.1 A (md_M G B h ad n (va_up f 10 (upd (cpF (f 9) (f 10) k) k (vp_nar .byte (f 9 k))))) H := hM
              refine lv_iinc (v := nI (k + 1)) (lv' := [(3, .int (nI (k + 1))), (0, .ref h), (1, .int (nI sz)), (2, .int w)]) hx hb dX8_adopt_53 hl (k := 3) rfl (nI_1 k) (by decide) rfl (fun ls hl => ?_)
              refine lv_goto (tgt := 36) hx hb dX8_adopt_56 (by decide) ?_
              exact ih (k + 1) ls _ _ (by omega) (by omega) (by have z := hM; rw [hby k, cp_succ] at z; exact z) hS (lv_sub hl [1, 2, 3, 0] rfl)
        exact LP36 _ 0 ls _ _ (Nat.lt_succ_self _) (Nat.zero_le _) (by rw [cp_0, show va_up f 10 (f 10) = f from funext (fun j => by by_cases e : j = 10 <;> simp [va_up, e])]; exact hM) hS (lv_sub hl [1, 2, 3, 0] rfl)
      · have c3 := nn_eq (a := pn) (b := 20) (by omega) (by omega) c3
        refine lv_bipush (v := (-3 : Int32)) hx hb dX8_adopt_31 (by decide) ?_
        exact mp_iret hx hb hr hlocks (Nat.le_of_ble_eq_true rfl) (Nat.le_of_ble_eq_true rfl) hM hS dX8_adopt_33 (⟨-3, n, f, rfl, rfl, Or.inr (Or.inl ⟨⟨pB_iff.mp c1, pB_iff.mp c2⟩, c3, rfl, rfl, rfl⟩)⟩)
    · have c2 : (pB (md_in w 0 9999)) = false := bI_0.mp c2
      refine lv_bipush (v := (-2 : Int32)) hx hb dX8_adopt_19 (by decide) ?_
      exact mp_iret hx hb hr hlocks (Nat.le_of_ble_eq_true rfl) (Nat.le_of_ble_eq_true rfl) hM hS dX8_adopt_21 (⟨-2, n, f, rfl, rfl, Or.inl ⟨fun z => pB_not.mp c2 z.2, rfl, rfl, rfl⟩⟩)
