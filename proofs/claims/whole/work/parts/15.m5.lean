/-! ===== objections, the tape, the text ===== -/
theorem upd_uu (f : Nat → Int32) (k : Nat) (x y : Int32) : upd (upd f k x) k y = upd f k y := by
  funext j
  by_cases h : j = k
  · simp [upd, h]
  · simp [upd, h]
theorem upd_same {f : Nat → Int32} {k : Nat} {x : Int32} (h : f k = x) : upd f k x = f := by
  funext j
  by_cases hj : j = k
  · simp [upd, hj, h]
  · simp [upd, hj]
theorem upd_comm (f : Nat → Int32) {i k : Nat} (h : i ≠ k) (x y : Int32) : upd (upd f i x) k y = upd (upd f k y) i x := by
  funext j
  by_cases h1 : j = i
  · subst h1; simp [upd, h]
  · by_cases h2 : j = k
    · subst h2; simp [upd, h1]
    · simp [upd, h1, h2]
def md_objOK (f : Nat → Nat → Int32) (pl ap : Nat) (q w : Int32) : Prop := md_in q 0 (nI ap - 1) ∧ f 31 q.toNatClampNeg = 0 ∧ md_in w 0 (nI pl - 1) ∧ f 23 q.toNatClampNeg ≠ w
noncomputable def md_objW (f : Nat → Nat → Int32) (co : Nat → Nat) (o b : Nat) : Int32 := if pB (rg_near (md_rg f o (co o)) (md_rg f b (co b)) (0 : Int32).toInt64) then 2 else 1
noncomputable def md_objR (n : Nat → Int32) (f : Nat → Nat → Int32) (pl ap : Nat) (co op : Nat → Nat) (q w : Int32) : Int32 :=
  if pB (md_objOK f pl ap q w) then
    (if pB (rg_near (md_rg f (op q.toNatClampNeg) (co (op q.toNatClampNeg))) (md_rg f w.toNatClampNeg (co w.toNatClampNeg)) (20 : Int32).toInt64) then
      (if f 30 q.toNatClampNeg + 30 < n 0 then -1 else if f 40 (12 * q.toNatClampNeg + w.toNatClampNeg) = 0 then md_objW f co (op q.toNatClampNeg) w.toNatClampNeg else -3)
     else -2)
  else -4
noncomputable def md_objF (n : Nat → Int32) (f : Nat → Nat → Int32) (pl ap : Nat) (co op : Nat → Nat) (q w : Int32) : Nat → Nat → Int32 :=
  if 0 < md_objR n f pl ap co op q w then va_up (va_up f 40 (upd (f 40) (12 * q.toNatClampNeg + w.toNatClampNeg) 1)) 33 (upd (f 33) q.toNatClampNeg (f 33 q.toNatClampNeg + md_objW f co (op q.toNatClampNeg) w.toNatClampNeg)) else f
def tp_b (v k : Int32) : Int32 := (v >>> (k &&& 31)).toInt8.toInt32
def md_fourG (g : Nat → Int32) (t : Nat) (v : Int32) : Nat → Int32 := upd (upd (upd (upd g t (tp_b v 24)) (t + 1) (tp_b v 16)) (t + 1 + 1) (tp_b v 8)) (t + 1 + 1 + 1) (tp_b v 0)
def md_four (f : Nat → Nat → Int32) (t : Nat) (v : Int32) : Nat → Nat → Int32 := va_up f 9 (md_fourG (f 9) t v)
noncomputable def md_feedOK (t : Nat) : Prop := t + 20 ≤ 600
def md_feedF (f : Nat → Nat → Int32) (t : Nat) (a b c d e : Int32) : Nat → Nat → Int32 := md_four (md_four (md_four (md_four (md_four f t a) (t + 4) b) (t + 4 + 4) c) (t + 4 + 4 + 4) d) (t + 4 + 4 + 4 + 4) e
noncomputable def skp (P : Nat → Prop) (sz : Nat) : Nat → Nat → Nat
  | 0, i => i
  | k + 1, i => if pB (i < sz ∧ P i) then skp P sz k (i + 1) else i
noncomputable def sk (P : Nat → Prop) (sz i : Nat) : Nat := skp P sz (sz - i) i
theorem sk_yes {P : Nat → Prop} {sz i : Nat} (h : i < sz) (q : P i) : sk P sz i = sk P sz (i + 1) := by
  rw [sk, show sz - i = (sz - (i + 1)) + 1 by omega, skp, pB_t ⟨h, q⟩]; rfl
theorem sk_no {P : Nat → Prop} {sz i : Nat} (h : ¬ (i < sz ∧ P i)) : sk P sz i = i := by
  rw [sk]
  cases hk : sz - i with
  | zero => rfl
  | succ k => rw [skp, pB_f h]; rfl
theorem sk_spec {P : Nat → Prop} {sz : Nat} : ∀ (k i : Nat), sz - i < k → i ≤ sz → i ≤ sk P sz i ∧ sk P sz i ≤ sz ∧ (∀ j, i ≤ j → j < sk P sz i → P j) ∧ ¬ (sk P sz i < sz ∧ P (sk P sz i))
  | 0, i, h, _ => absurd h (Nat.not_lt_zero _)
  | k + 1, i, h, hi => by
    by_cases q : i < sz ∧ P i
    · rw [sk_yes q.1 q.2]
      obtain ⟨h1, h2, h3, h4⟩ := sk_spec (P := P) (sz := sz) k (i + 1) (by omega) (by omega)
      refine ⟨by omega, h2, fun j a b => ?_, h4⟩
      by_cases e : j = i
      · rw [e]; exact q.2
      · exact h3 j (by omega) b
    · rw [sk_no q]
      exact ⟨Nat.le_refl _, hi, fun j a b => by omega, q⟩
theorem sk_in {P : Nat → Prop} {sz i : Nat} (h : i ≤ sz) : i ≤ sk P sz i ∧ sk P sz i ≤ sz := by
  have := sk_spec (P := P) (sz - i + 1) i (by omega) h
  exact ⟨this.1, this.2.1⟩
def isB (t : Nat → Int32) (i : Nat) : Prop := t i = 32 ∨ t i = 10
def isL (t : Nat → Int32) (i : Nat) : Prop := md_in (t i) 97 122
def isD (t : Nat → Int32) (i : Nat) : Prop := md_in (t i) 48 57
noncomputable def tb (t : Nat → Int32) (sz i : Nat) : Nat := sk (isB t) sz i
theorem tb_in {t : Nat → Int32} {sz i : Nat} (h : i ≤ sz) : i ≤ tb t sz i ∧ tb t sz i ≤ sz := sk_in h
def tkP (t : Nat → Int32) (sz i : Nat) (c : Int32) : Prop := tb t sz i < sz ∧ t (tb t sz i) = c
noncomputable def tkN (t : Nat → Int32) (sz i : Nat) (c : Int32) : Nat := if pB (tkP t sz i c) then tb t sz i + 1 else tb t sz i
abbrev rmX8_object : Room := { frames := 3, cells := 0, slots := 0, locals := 98 }
set_option maxHeartbeats 4000000 in
set_option maxRecDepth 100000 in
theorem c_X8_object (l : Launch) (X : mp_X) (G : mp_G) (A : Nat → Prop) (B : mp_M) (h : Nat) (ad : Nat → Nat) (n : Nat → Int32) (f : Nat → Nat → Int32) (pl : Nat) (co : Nat → Nat) (hpl : n 1 = nI pl) (hpl9 : pl ≤ 12) (hco : ∀ o, o < pl → f 6 o = nI (co o) ∧ 0 < co o ∧ co o ≤ 8) (pn : Nat) (hpn : n 3 = nI pn) (hpn9 : pn ≤ 20) (zmf : Nat → Nat) (hzmf : ∀ o, o < pn → f 17 o = nI (zmf o) ∧ zmf o ≤ 8) (ap : Nat) (hap : n 4 = nI ap) (hap9 : ap ≤ 40) (op : Nat → Nat) (hop : ∀ a, a < ap → f 23 a = nI (op a) ∧ op a < pl ∧ md_in (f 30 a) 0 9999) (htd : md_in (n 0) 0 9999) (q w : Int32) : mp_Met l X G A yX8_object wsX8_object rmX8_object ([.ref h, .int q, .int w] : List Value) (md_M G B h ad n f) (fun v M1 => v = some (.int (md_objR n f pl ap co op q w)) ∧ M1 = md_M G B h ad n (md_objF n f pl ap co op q w)) 0 0 := by
  refine mp_ofW (cc := cX8_object) (maxL := 5) (ret := (some .int)) (by decide) rfl (Nat.le_of_ble_eq_true rfl) ?_
  intro p e s m below meth c ls hx hb hr hts hown hlocks hnm hml hC hM hS hl
  have hl : lv_has ls 5 [(0, .ref h), (1, .int q), (2, .int w)] := hl
  have hown : s.vm.findClass RX8 = some m.cls := hown
  have fl_72 := hts (.fieldLink RX8 72 "PlanningBenchModel" "how" "[I") (List.mem_of_getElem? (i := 1) rfl)
  have hin_wsX80 : ∀ w ∈ wsX80, w ∈ wsX8_object := fun _ h => List.mem_cons_of_mem _ (List.mem_append_right _ h)
  have fl_48 := hts (.fieldLink RX8 48 "PlanningBenchModel" "onPlot" "[I") (List.mem_of_getElem? (i := 2) rfl)
  have fl_125 := hts (.fieldLink RX8 125 "PlanningBenchModel" "today" "I") (List.mem_of_getElem? (i := 3) rfl)
  have fl_69 := hts (.fieldLink RX8 69 "PlanningBenchModel" "since" "[I") (List.mem_of_getElem? (i := 4) rfl)
  have fl_100 := hts (.fieldLink RX8 100 "PlanningBenchModel" "hasObjected" "[Z") (List.mem_of_getElem? (i := 5) rfl)
  have fl_78 := hts (.fieldLink RX8 78 "PlanningBenchModel" "weight" "[I") (List.mem_of_getElem? (i := 6) rfl)
  refine lv_aload_n hx hb dX8_object_0 rfl (lv_at hl 0 rfl) ?_
  refine lv_iload_n hx hb dX8_object_1 rfl (lv_at hl 1 rfl) ?_
  refine mp_calli (va_runV (As := [.int q]) (rest := []) ⟨hx, hb, hml, hown, hts⟩ (c_X8_isApplication l X G A B h ad n f q) (cwV 1 hts gX8_object_X8_isApplication rfl rfl rfl (by decide +kernel) ⟨Nat.le_of_ble_eq_true rfl, Nat.le_of_ble_eq_true rfl⟩) (mp_preV hC hS hM (md_recv hC hM)) rfl rfl hl.1 rfl (lv_room (Nat.le_of_ble_eq_true rfl)) dX8_object_2 ⟨Nat.le_of_ble_eq_true rfl, Nat.le_of_ble_eq_true rfl⟩) hS (fun H locs hM hS => ?_)
  refine lv_if_eq (tgt := 35) hx hb dX8_object_5 (by decide) (fun c1 => ?_) (fun c1 => ?_)
  · have c1 : (pB (md_in q 0 (n 4 - 1))) = false := bI_0.mp c1
    refine lv_bipush (v := (-4 : Int32)) hx hb dX8_object_35 (by decide) ?_
    exact mp_iret hx hb hr hlocks (Nat.le_of_ble_eq_true rfl) (Nat.le_of_ble_eq_true rfl) hM hS dX8_object_37 (have z0 : pB (md_objOK f pl ap q w) = false := pB_f (fun z => pB_not.mp c1 (by rw [hap]; exact z.1)); have z1 : md_objR n f pl ap co op q w = -4 := (by rw [md_objR, z0]; rfl); by rw [md_objF, z1]; exact ⟨rfl, rfl⟩)
  · have c1 : (pB (md_in q 0 (n 4 - 1))) = true := bI_1.mp c1
    obtain ⟨a, ha, e_a⟩ := md_nat (k := ap) (by omega) (by have z := pB_iff.mp c1; rw [hap] at z; exact z)
    subst e_a
    have ecl : (nI a).toNatClampNeg = a := nI_clamp (by omega)
    refine lv_aload_n hx hb dX8_object_8 rfl (lv_at hl 0 rfl) ?_
    refine md_getr hx hb hts hin_wsX80 hown hC hM 31 (by decide) rfl fl_72 dX8_object_9 ?_
    refine lv_iload_n hx hb dX8_object_12 rfl (lv_at hl 1 rfl) ?_
    refine md_iald hx hb hC hM 31 rfl (j := a) (by omega) (by decide) dX8_object_13 ?_
    refine lv_if_ne (tgt := 35) hx hb dX8_object_14 (by decide) (fun c2 => ?_) (fun c2 => ?_)
    · have c2 := c2
      refine lv_bipush (v := (-4 : Int32)) hx hb dX8_object_35 (by decide) ?_
      exact mp_iret hx hb hr hlocks (Nat.le_of_ble_eq_true rfl) (Nat.le_of_ble_eq_true rfl) hM hS dX8_object_37 (have z0 : pB (md_objOK f pl ap (nI a) w) = false := pB_f (fun z => c2 (by have y := z.2.1; rw [ecl] at y; exact y)); have z1 : md_objR n f pl ap co op (nI a) w = -4 := (by rw [md_objR, z0]; rfl); by rw [md_objF, z1]; exact ⟨rfl, rfl⟩)
    · have c2 := c2
      refine lv_aload_n hx hb dX8_object_17 rfl (lv_at hl 0 rfl) ?_
      refine lv_iload_n hx hb dX8_object_18 rfl (lv_at hl 2 rfl) ?_
      refine mp_calli (va_runV (As := [.int w]) (rest := []) ⟨hx, hb, hml, hown, hts⟩ (c_X8_isPlot l X G A B h ad n f w) (cwV 1 hts gX8_object_X8_isPlot rfl rfl rfl (by decide +kernel) ⟨Nat.le_of_ble_eq_true rfl, Nat.le_of_ble_eq_true rfl⟩) (mp_preV hC hS hM (md_recv hC hM)) rfl rfl hl.1 rfl (lv_room (Nat.le_of_ble_eq_true rfl)) dX8_object_19 ⟨Nat.le_of_ble_eq_true rfl, Nat.le_of_ble_eq_true rfl⟩) hS (fun H locs hM hS => ?_)
      refine lv_if_eq (tgt := 35) hx hb dX8_object_22 (by decide) (fun c3 => ?_) (fun c3 => ?_)
      · have c3 : (pB (md_in w 0 (n 1 - 1))) = false := bI_0.mp c3
        refine lv_bipush (v := (-4 : Int32)) hx hb dX8_object_35 (by decide) ?_
        exact mp_iret hx hb hr hlocks (Nat.le_of_ble_eq_true rfl) (Nat.le_of_ble_eq_true rfl) hM hS dX8_object_37 (have z0 : pB (md_objOK f pl ap (nI a) w) = false := pB_f (fun z => pB_not.mp c3 (by rw [hpl]; exact z.2.2.1)); have z1 : md_objR n f pl ap co op (nI a) w = -4 := (by rw [md_objR, z0]; rfl); by rw [md_objF, z1]; exact ⟨rfl, rfl⟩)
      · have c3 : (pB (md_in w 0 (n 1 - 1))) = true := bI_1.mp c3
        obtain ⟨b0, hb0, e_b⟩ := md_nat (k := pl) (by omega) (by have z := pB_iff.mp c3; rw [hpl] at z; exact z)
        subst e_b
        have eclb : (nI b0).toNatClampNeg = b0 := nI_clamp (by omega)
        have g0 := hop a ha
        have g1 := hco (op a) g0.2.1
        have g2 := hco b0 hb0
        refine lv_aload_n hx hb dX8_object_25 rfl (lv_at hl 0 rfl) ?_
        refine md_getr hx hb hts hin_wsX80 hown hC hM 23 (by decide) rfl fl_48 dX8_object_26 ?_
        refine lv_iload_n hx hb dX8_object_29 rfl (lv_at hl 1 rfl) ?_
        refine md_iald hx hb hC hM 23 rfl (j := a) (by omega) (by decide) dX8_object_30 ?_
        refine mp_top (nI (op a)) g0.1 ?_
        refine lv_iload_n hx hb dX8_object_31 rfl (lv_at hl 2 rfl) ?_
        refine lv_icmp_ne (tgt := 38) hx hb dX8_object_32 (by decide) (fun c4 => ?_) (fun c4 => ?_)
        · have c4 := nn_neq (a := (op a)) (b := b0) (by omega) (by omega) c4
          refine lv_aload_n hx hb dX8_object_38 rfl (lv_at hl 0 rfl) ?_
          refine md_getr hx hb hts hin_wsX80 hown hC hM 23 (by decide) rfl fl_48 dX8_object_39 ?_
          refine lv_iload_n hx hb dX8_object_42 rfl (lv_at hl 1 rfl) ?_
          refine md_iald hx hb hC hM 23 rfl (j := a) (by omega) (by decide) dX8_object_43 ?_
          refine mp_top (nI (op a)) g0.1 ?_
          refine lv_istore_n (lv' := [(3, .int (nI (op a))), (0, .ref h), (1, .int (nI a)), (2, .int (nI b0))]) hx hb dX8_object_44 rfl hl (by decide) rfl (fun ls hl => ?_)
          refine lv_aload_n hx hb dX8_object_45 rfl (lv_at hl 1 rfl) ?_
          refine lv_iload_n hx hb dX8_object_46 rfl (lv_at hl 0 rfl) ?_
          refine lv_iload_n hx hb dX8_object_47 rfl (lv_at hl 3 rfl) ?_
          refine lv_bipush (v := (20 : Int32)) hx hb dX8_object_48 (by decide) ?_
          refine mp_calli (va_runV (As := [.int (nI (op a)), .int (nI b0), .int (20 : Int32)]) (rest := []) ⟨hx, hb, hml, hown, hts⟩ (c_X8_isNear l X G A B h ad n f (op a) (co (op a)) (by omega) (by omega) (by omega) g1.1 b0 (co b0) (by omega) (by omega) (by omega) g2.1 (20 : Int32)) (cwV 3 hts gX8_object_X8_isNear rfl rfl rfl (by decide +kernel) ⟨Nat.le_of_ble_eq_true rfl, Nat.le_of_ble_eq_true rfl⟩) (mp_preV hC hS hM (md_recv hC hM)) rfl rfl hl.1 rfl (lv_room (Nat.le_of_ble_eq_true rfl)) dX8_object_50 ⟨Nat.le_of_ble_eq_true rfl, Nat.le_of_ble_eq_true rfl⟩) hS (fun H locs hM hS => ?_)
          refine lv_if_ne (tgt := 59) hx hb dX8_object_53 (by decide) (fun c5 => ?_) (fun c5 => ?_)
          · have c5 : (pB (rg_near (md_rg f (op a) (co (op a))) (md_rg f b0 (co b0)) (20 : Int32).toInt64)) = true := bI_1.mp c5
            refine lv_aload_n hx hb dX8_object_59 rfl (lv_at hl 1 rfl) ?_
            refine md_geti hx hb hts hin_wsX80 hown hC hM 0 (by decide) rfl fl_125 dX8_object_60 ?_
            refine lv_aload_n hx hb dX8_object_63 rfl (lv_at hl 1 rfl) ?_
            refine md_getr hx hb hts hin_wsX80 hown hC hM 30 (by decide) rfl fl_69 dX8_object_64 ?_
            refine lv_iload_n hx hb dX8_object_67 rfl (lv_at hl 2 rfl) ?_
            refine md_iald hx hb hC hM 30 rfl (j := a) (by omega) (by decide) dX8_object_68 ?_
            refine lv_bipush (v := (30 : Int32)) hx hb dX8_object_69 (by decide) ?_
            refine lv_iadd hx hb dX8_object_71 ?_
            refine lv_icmp_le (tgt := 77) hx hb dX8_object_72 (by decide) (fun c6 => ?_) (fun c6 => ?_)
            · have c6 := c6
              refine lv_aload_n hx hb dX8_object_77 rfl (lv_at hl 1 rfl) ?_
              refine md_getr hx hb hts hin_wsX80 hown hC hM 40 (by decide) rfl fl_100 dX8_object_78 ?_
              refine lv_bipush (v := (12 : Int32)) hx hb dX8_object_81 (by decide) ?_
              refine lv_iload_n hx hb dX8_object_83 rfl (lv_at hl 2 rfl) ?_
              refine lv_imul hx hb dX8_object_84 ?_
              refine mp_top (nI (12 * a)) (pk_mul 12 a) ?_
              refine lv_iload_n hx hb dX8_object_85 rfl (lv_at hl 3 rfl) ?_
              refine lv_iadd hx hb dX8_object_86 ?_
              refine mp_top (nI ((12 * a) + b0)) (nI_add (12 * a) b0) ?_
              refine md_zald hx hb hC hM 40 rfl (j := (12 * a) + b0) (by omega) (by decide) dX8_object_87 ?_
              refine lv_if_eq (tgt := 94) hx hb dX8_object_88 (by decide) (fun c7 => ?_) (fun c7 => ?_)
              · have c7 := c7
                refine lv_aload_n hx hb dX8_object_94 rfl (lv_at hl 1 rfl) ?_
                refine md_getr hx hb hts hin_wsX80 hown hC hM 40 (by decide) rfl fl_100 dX8_object_95 ?_
                refine lv_bipush (v := (12 : Int32)) hx hb dX8_object_98 (by decide) ?_
                refine lv_iload_n hx hb dX8_object_100 rfl (lv_at hl 2 rfl) ?_
                refine lv_imul hx hb dX8_object_101 ?_
                refine mp_top (nI (12 * a)) (pk_mul 12 a) ?_
                refine lv_iload_n hx hb dX8_object_102 rfl (lv_at hl 3 rfl) ?_
                refine lv_iadd hx hb dX8_object_103 ?_
                refine mp_top (nI ((12 * a) + b0)) (nI_add (12 * a) b0) ?_
                refine lv_iconst (v := (1 : Int32)) hx hb dX8_object_104 (by decide) ?_
                refine md_zast hx hb hC hM hS 40 rfl (j := (12 * a) + b0) (by omega) (by decide) dX8_object_105 (fun H locs hM hS => ?_)
                have hM : mp_P G.1 A (md_M G B h ad n (va_up f 40 (upd (f 40) ((12 * a) + b0) (1 : Int32)))) H := hM
                refine lv_aload_n hx hb dX8_object_106 rfl (lv_at hl 1 rfl) ?_
                refine lv_iload_n hx hb dX8_object_107 rfl (lv_at hl 0 rfl) ?_
                refine lv_iload_n hx hb dX8_object_108 rfl (lv_at hl 3 rfl) ?_
                refine lv_iconst (v := (0 : Int32)) hx hb dX8_object_109 (by decide) ?_
                refine mp_calli (va_runV (As := [.int (nI (op a)), .int (nI b0), .int (0 : Int32)]) (rest := []) ⟨hx, hb, hml, hown, hts⟩ (c_X8_isNear l X G A B h ad n (va_up f 40 (upd (f 40) ((12 * a) + b0) (1 : Int32))) (op a) (co (op a)) (by omega) (by omega) (by omega) g1.1 b0 (co b0) (by omega) (by omega) (by omega) g2.1 (0 : Int32)) (cwV 3 hts gX8_object_X8_isNear rfl rfl rfl (by decide +kernel) ⟨Nat.le_of_ble_eq_true rfl, Nat.le_of_ble_eq_true rfl⟩) (mp_preV hC hS hM (md_recv hC hM)) rfl rfl hl.1 rfl (lv_room (Nat.le_of_ble_eq_true rfl)) dX8_object_110 ⟨Nat.le_of_ble_eq_true rfl, Nat.le_of_ble_eq_true rfl⟩) hS (fun H locs hM hS => ?_)
                refine lv_if_eq (tgt := 120) hx hb dX8_object_113 (by decide) (fun c8 => ?_) (fun c8 => ?_)
                · have c8 : (pB (rg_near (md_rg f (op a) (co (op a))) (md_rg f b0 (co b0)) (0 : Int32).toInt64)) = false := bI_0.mp c8
                  refine lv_iconst (v := (1 : Int32)) hx hb dX8_object_120 (by decide) ?_
                  refine lv_istore (lv' := [(4, .int (1 : Int32)), (3, .int (nI (op a))), (0, .ref h), (1, .int (nI a)), (2, .int (nI b0))]) hx hb dX8_object_121 hl (by decide) rfl (fun ls hl => ?_)
                  refine lv_aload_n hx hb dX8_object_123 rfl (lv_at hl 2 rfl) ?_
                  refine md_getr hx hb hts hin_wsX80 hown hC hM 33 (by decide) rfl fl_78 dX8_object_124 ?_
                  refine lv_iload_n hx hb dX8_object_127 rfl (lv_at hl 3 rfl) ?_
                  refine lv_dup2_11 hx hb dX8_object_128 rfl rfl ?_
                  refine md_iald hx hb hC hM 33 rfl (j := a) (by omega) (by decide) dX8_object_129 ?_
                  refine mp_top (f 33 a) rfl ?_
                  refine lv_iload hx hb dX8_object_130 (lv_at hl 0 rfl) ?_
                  refine lv_iadd hx hb dX8_object_132 ?_
                  refine md_iast hx hb hC hM hS 33 rfl (j := a) (by omega) (by decide) dX8_object_133 (fun H locs hM hS => ?_)
                  have hM : mp_P G.1 A (md_M G B h ad n (va_up (va_up f 40 (upd (f 40) ((12 * a) + b0) (1 : Int32))) 33 (upd (f 33) a ((f 33 a) + (1 : Int32))))) H := hM
                  refine lv_iload hx hb dX8_object_134 (lv_at hl 0 rfl) ?_
                  exact mp_iret hx hb hr hlocks (Nat.le_of_ble_eq_true rfl) (Nat.le_of_ble_eq_true rfl) hM hS dX8_object_136 (have z0 : pB (md_objOK f pl ap (nI a) (nI b0)) = true := pB_t ⟨by rw [← hap]; exact pB_iff.mp c1, by rw [ecl]; exact c2, by rw [← hpl]; exact pB_iff.mp c3, by rw [ecl, g0.1]; intro z; exact c4 (nn_eq (by omega) (by omega) z)⟩; have z2 : md_objW f co (op a) b0 = 1 := (by rw [md_objW, c8]; rfl); have z1 : md_objR n f pl ap co op (nI a) (nI b0) = 1 := (by simp only [md_objR, z0, if_true, ecl, eclb, c5, if_neg (i_nlt.mpr c6), if_pos c7, z2]); by rw [md_objF, z1, ecl, eclb, z2, if_pos (by decide)]; exact ⟨rfl, rfl⟩)
                · have c8 : (pB (rg_near (md_rg f (op a) (co (op a))) (md_rg f b0 (co b0)) (0 : Int32).toInt64)) = true := bI_1.mp c8
                  refine lv_iconst (v := (2 : Int32)) hx hb dX8_object_116 (by decide) ?_
                  refine lv_goto (tgt := 121) hx hb dX8_object_117 (by decide) ?_
                  refine lv_istore (lv' := [(4, .int (2 : Int32)), (3, .int (nI (op a))), (0, .ref h), (1, .int (nI a)), (2, .int (nI b0))]) hx hb dX8_object_121 hl (by decide) rfl (fun ls hl => ?_)
                  refine lv_aload_n hx hb dX8_object_123 rfl (lv_at hl 2 rfl) ?_
                  refine md_getr hx hb hts hin_wsX80 hown hC hM 33 (by decide) rfl fl_78 dX8_object_124 ?_
                  refine lv_iload_n hx hb dX8_object_127 rfl (lv_at hl 3 rfl) ?_
                  refine lv_dup2_11 hx hb dX8_object_128 rfl rfl ?_
                  refine md_iald hx hb hC hM 33 rfl (j := a) (by omega) (by decide) dX8_object_129 ?_
                  refine mp_top (f 33 a) rfl ?_
                  refine lv_iload hx hb dX8_object_130 (lv_at hl 0 rfl) ?_
                  refine lv_iadd hx hb dX8_object_132 ?_
                  refine md_iast hx hb hC hM hS 33 rfl (j := a) (by omega) (by decide) dX8_object_133 (fun H locs hM hS => ?_)
                  have hM : mp_P G.1 A (md_M G B h ad n (va_up (va_up f 40 (upd (f 40) ((12 * a) + b0) (1 : Int32))) 33 (upd (f 33) a ((f 33 a) + (2 : Int32))))) H := hM
                  refine lv_iload hx hb dX8_object_134 (lv_at hl 0 rfl) ?_
                  exact mp_iret hx hb hr hlocks (Nat.le_of_ble_eq_true rfl) (Nat.le_of_ble_eq_true rfl) hM hS dX8_object_136 (have z0 : pB (md_objOK f pl ap (nI a) (nI b0)) = true := pB_t ⟨by rw [← hap]; exact pB_iff.mp c1, by rw [ecl]; exact c2, by rw [← hpl]; exact pB_iff.mp c3, by rw [ecl, g0.1]; intro z; exact c4 (nn_eq (by omega) (by omega) z)⟩; have z2 : md_objW f co (op a) b0 = 2 := (by rw [md_objW, c8]; rfl); have z1 : md_objR n f pl ap co op (nI a) (nI b0) = 2 := (by simp only [md_objR, z0, if_true, ecl, eclb, c5, if_neg (i_nlt.mpr c6), if_pos c7, z2]); by rw [md_objF, z1, ecl, eclb, z2, if_pos (by decide)]; exact ⟨rfl, rfl⟩)
              · have c7 := c7
                refine lv_bipush (v := (-3 : Int32)) hx hb dX8_object_91 (by decide) ?_
                exact mp_iret hx hb hr hlocks (Nat.le_of_ble_eq_true rfl) (Nat.le_of_ble_eq_true rfl) hM hS dX8_object_93 (have z0 : pB (md_objOK f pl ap (nI a) (nI b0)) = true := pB_t ⟨by rw [← hap]; exact pB_iff.mp c1, by rw [ecl]; exact c2, by rw [← hpl]; exact pB_iff.mp c3, by rw [ecl, g0.1]; intro z; exact c4 (nn_eq (by omega) (by omega) z)⟩; have z1 : md_objR n f pl ap co op (nI a) (nI b0) = -3 := (by simp only [md_objR, z0, if_true, ecl, eclb, c5, if_neg (i_nlt.mpr c6), if_neg c7]); by rw [md_objF, z1]; exact ⟨rfl, rfl⟩)
            · have c6 := c6
              refine lv_iconst (v := (-1 : Int32)) hx hb dX8_object_75 (by decide) ?_
              exact mp_iret hx hb hr hlocks (Nat.le_of_ble_eq_true rfl) (Nat.le_of_ble_eq_true rfl) hM hS dX8_object_76 (have z0 : pB (md_objOK f pl ap (nI a) (nI b0)) = true := pB_t ⟨by rw [← hap]; exact pB_iff.mp c1, by rw [ecl]; exact c2, by rw [← hpl]; exact pB_iff.mp c3, by rw [ecl, g0.1]; intro z; exact c4 (nn_eq (by omega) (by omega) z)⟩; have z1 : md_objR n f pl ap co op (nI a) (nI b0) = -1 := (by simp only [md_objR, z0, if_true, ecl, eclb, c5, if_pos (i_nle.mp c6)]); by rw [md_objF, z1]; exact ⟨rfl, rfl⟩)
          · have c5 : (pB (rg_near (md_rg f (op a) (co (op a))) (md_rg f b0 (co b0)) (20 : Int32).toInt64)) = false := bI_0.mp c5
            refine lv_bipush (v := (-2 : Int32)) hx hb dX8_object_56 (by decide) ?_
            exact mp_iret hx hb hr hlocks (Nat.le_of_ble_eq_true rfl) (Nat.le_of_ble_eq_true rfl) hM hS dX8_object_58 (have z0 : pB (md_objOK f pl ap (nI a) (nI b0)) = true := pB_t ⟨by rw [← hap]; exact pB_iff.mp c1, by rw [ecl]; exact c2, by rw [← hpl]; exact pB_iff.mp c3, by rw [ecl, g0.1]; intro z; exact c4 (nn_eq (by omega) (by omega) z)⟩; have z1 : md_objR n f pl ap co op (nI a) (nI b0) = -2 := (by simp only [md_objR, z0, if_true, ecl, eclb, c5]; rfl); by rw [md_objF, z1]; exact ⟨rfl, rfl⟩)
        · have c4 := nn_eq (a := (op a)) (b := b0) (by omega) (by omega) c4
          refine lv_bipush (v := (-4 : Int32)) hx hb dX8_object_35 (by decide) ?_
          exact mp_iret hx hb hr hlocks (Nat.le_of_ble_eq_true rfl) (Nat.le_of_ble_eq_true rfl) hM hS dX8_object_37 (have z0 : pB (md_objOK f pl ap (nI a) (nI b0)) = false := pB_f (fun z => z.2.2.2 (by rw [ecl, g0.1, c4])); have z1 : md_objR n f pl ap co op (nI a) (nI b0) = -4 := (by rw [md_objR, z0]; rfl); by rw [md_objF, z1]; exact ⟨rfl, rfl⟩)
abbrev rmX8_ring : Room := { frames := 2, cells := 0, slots := 0, locals := 49 }
set_option maxHeartbeats 4000000 in
set_option maxRecDepth 100000 in
theorem c_X8_ring (l : Launch) (X : mp_X) (G : mp_G) (A : Nat → Prop) (B : mp_M) (h : Nat) (ad : Nat → Nat) (n : Nat → Int32) (f : Nat → Nat → Int32) (pl : Nat) (co : Nat → Nat) (hpl : n 1 = nI pl) (hpl9 : pl ≤ 12) (hco : ∀ o, o < pl → f 6 o = nI (co o) ∧ 0 < co o ∧ co o ≤ 8) (q w : Int32) : mp_Met l X G A yX8_ring wsX8_ring rmX8_ring ([.ref h, .int q, .int w] : List Value) (md_M G B h ad n f) (fun v M1 => v = some (.int (md_ringV f pl co q w)) ∧ M1 = md_M G B h ad n f) 0 0 := by
  refine mp_ofW (cc := cX8_ring) (maxL := 4) (ret := (some .int)) (by decide) rfl (Nat.le_of_ble_eq_true rfl) ?_
  intro p e s m below meth c ls hx hb hr hts hown hlocks hnm hml hC hM hS hl
  have hl : lv_has ls 4 [(0, .ref h), (1, .int q), (2, .int w)] := hl
  have hown : s.vm.findClass RX8 = some m.cls := hown
  have fl_7 := hts (.fieldLink RX8 7 "PlanningBenchModel" "corners" "[I") (List.mem_of_getElem? (i := 1) rfl)
  have hin_wsX80 : ∀ w ∈ wsX80, w ∈ wsX8_ring := fun _ h => List.mem_cons_of_mem _ (List.mem_append_right _ h)
  have fl_16 := hts (.fieldLink RX8 16 "PlanningBenchModel" "ys" "[I") (List.mem_of_getElem? (i := 3) rfl)
  have fl_13 := hts (.fieldLink RX8 13 "PlanningBenchModel" "xs" "[I") (List.mem_of_getElem? (i := 2) rfl)
  refine lv_aload_n hx hb dX8_ring_0 rfl (lv_at hl 0 rfl) ?_
  refine lv_iload_n hx hb dX8_ring_1 rfl (lv_at hl 1 rfl) ?_
  refine mp_calli (va_runV (As := [.int q]) (rest := []) ⟨hx, hb, hml, hown, hts⟩ (c_X8_isPlot l X G A B h ad n f q) (cwV 1 hts gX8_ring_X8_isPlot rfl rfl rfl (by decide +kernel) ⟨Nat.le_of_ble_eq_true rfl, Nat.le_of_ble_eq_true rfl⟩) (mp_preV hC hS hM (md_recv hC hM)) rfl rfl hl.1 rfl (lv_room (Nat.le_of_ble_eq_true rfl)) dX8_ring_2 ⟨Nat.le_of_ble_eq_true rfl, Nat.le_of_ble_eq_true rfl⟩) hS (fun H locs hM hS => ?_)
  refine lv_if_eq (tgt := 12) hx hb dX8_ring_5 (by decide) (fun c1 => ?_) (fun c1 => ?_)
  · have c1 : (pB (md_in q 0 (n 1 - 1))) = false := bI_0.mp c1
    refine lv_iconst (v := (-1 : Int32)) hx hb dX8_ring_12 (by decide) ?_
    exact mp_iret hx hb hr hlocks (Nat.le_of_ble_eq_true rfl) (Nat.le_of_ble_eq_true rfl) hM hS dX8_ring_13 (⟨by rw [md_ringV, pB_f (fun z => pB_not.mp c1 (by rw [hpl]; exact z.1))]; rfl, rfl⟩)
  · have c1 : (pB (md_in q 0 (n 1 - 1))) = true := bI_1.mp c1
    obtain ⟨r, hr9, e1⟩ := md_nat (k := pl) (by omega) (by have z := pB_iff.mp c1; rw [hpl] at z; exact z)
    subst e1
    have g1 := hco r hr9
    have ecl : (nI r).toNatClampNeg = r := nI_clamp (by omega)
    refine lv_iload_n hx hb dX8_ring_8 rfl (lv_at hl 2 rfl) ?_
    refine lv_if_ge (tgt := 14) hx hb dX8_ring_9 (by decide) (fun c2 => ?_) (fun c2 => ?_)
    · have c2 := c2
      obtain ⟨w0, hw0, e2⟩ := nI_of (i_nlt.mpr c2)
      subst e2
      refine lv_iload_n hx hb dX8_ring_14 rfl (lv_at hl 2 rfl) ?_
      refine lv_if_ne (tgt := 25) hx hb dX8_ring_15 (by decide) (fun c3 => ?_) (fun c3 => ?_)
      · have c3 := nn_neq (a := w0) (b := 0) (by omega) (by omega) c3
        refine lv_iload_n hx hb dX8_ring_25 rfl (lv_at hl 2 rfl) ?_
        refine lv_iconst (v := (1 : Int32)) hx hb dX8_ring_26 (by decide) ?_
        refine lv_icmp_ne (tgt := 36) hx hb dX8_ring_27 (by decide) (fun c4 => ?_) (fun c4 => ?_)
        · have c4 := nn_neq (a := w0) (b := 1) (by omega) (by omega) c4
          have hw2 : 2 ≤ w0 := by have := c3; have := c4; omega
          refine lv_iload_n hx hb dX8_ring_36 rfl (lv_at hl 2 rfl) ?_
          refine lv_iconst (v := (2 : Int32)) hx hb dX8_ring_37 (by decide) ?_
          refine lv_idiv hx hb dX8_ring_38 (nI_ne0 (n := 2) (by omega) (by omega)) ?_
          refine mp_top (nI (w0 / 2)) (pk_div (a := w0) (d := 2) (by omega) (by omega) (by omega)) ?_
          refine lv_iconst (v := (1 : Int32)) hx hb dX8_ring_39 (by decide) ?_
          refine lv_isub hx hb dX8_ring_40 ?_
          refine mp_top (nI ((w0 / 2) - 1)) (pk_sub (a := w0 / 2) (b := 1) (by omega)) ?_
          refine lv_istore_n (lv' := [(3, .int (nI ((w0 / 2) - 1))), (0, .ref h), (1, .int (nI r)), (2, .int (nI w0))]) hx hb dX8_ring_41 rfl hl (by decide) rfl (fun ls hl => ?_)
          refine lv_iload_n hx hb dX8_ring_42 rfl (lv_at hl 0 rfl) ?_
          refine lv_aload_n hx hb dX8_ring_43 rfl (lv_at hl 1 rfl) ?_
          refine md_getr hx hb hts hin_wsX80 hown hC hM 6 (by decide) rfl fl_7 dX8_ring_44 ?_
          refine lv_iload_n hx hb dX8_ring_47 rfl (lv_at hl 2 rfl) ?_
          refine md_iald hx hb hC hM 6 rfl (j := r) (by omega) (by decide) dX8_ring_48 ?_
          refine mp_top (nI (co r)) g1.1 ?_
          refine lv_icmp_lt (tgt := 54) hx hb dX8_ring_49 (by decide) (fun c5 => ?_) (fun c5 => ?_)
          · have c5 := nn_lt (a := (w0 / 2) - 1) (b := (co r)) (by omega) (by omega) c5
            refine lv_iload_n hx hb dX8_ring_54 rfl (lv_at hl 3 rfl) ?_
            refine lv_iconst (v := (2 : Int32)) hx hb dX8_ring_55 (by decide) ?_
            refine lv_irem hx hb dX8_ring_56 (nI_ne0 (n := 2) (by omega) (by omega)) ?_
            refine mp_top (nI (w0 % 2)) (pk_rem (a := w0) (d := 2) (by omega) (by omega) (by omega)) ?_
            refine lv_if_ne (tgt := 74) hx hb dX8_ring_57 (by decide) (fun c6 => ?_) (fun c6 => ?_)
            · have c6 := nn_neq (a := w0 % 2) (b := 0) (by omega) (by omega) c6
              refine lv_aload_n hx hb dX8_ring_74 rfl (lv_at hl 1 rfl) ?_
              refine md_getr hx hb hts hin_wsX80 hown hC hM 8 (by decide) rfl fl_16 dX8_ring_75 ?_
              refine lv_bipush (v := (8 : Int32)) hx hb dX8_ring_78 (by decide) ?_
              refine lv_iload_n hx hb dX8_ring_80 rfl (lv_at hl 2 rfl) ?_
              refine lv_imul hx hb dX8_ring_81 ?_
              refine mp_top (nI (8 * r)) (pk_mul 8 r) ?_
              refine lv_iload_n hx hb dX8_ring_82 rfl (lv_at hl 0 rfl) ?_
              refine lv_iadd hx hb dX8_ring_83 ?_
              refine mp_top (nI ((8 * r) + ((w0 / 2) - 1))) (nI_add (8 * r) ((w0 / 2) - 1)) ?_
              refine md_iald hx hb hC hM 8 rfl (j := (8 * r) + ((w0 / 2) - 1)) (by omega) (by decide) dX8_ring_84 ?_
              exact mp_iret hx hb hr hlocks (Nat.le_of_ble_eq_true rfl) (Nat.le_of_ble_eq_true rfl) hM hS dX8_ring_85 (have z0 : pB (md_in (nI r) 0 (nI pl - 1) ∧ 0 ≤ nI w0) = true := pB_t ⟨by rw [← hpl]; exact pB_iff.mp c1, c2⟩; have ek : nI w0 / 2 - 1 = nI (w0 / 2 - 1) := (by rw [show nI w0 / 2 = nI (w0 / 2) from pk_div (a := w0) (d := 2) (by omega) (by omega) (by omega)]; exact pk_sub (a := w0 / 2) (b := 1) (by omega)); have er : nI w0 - nI w0 / 2 * 2 = nI (w0 % 2) := pk_rem (a := w0) (d := 2) (by omega) (by omega) (by omega); have n0 : ¬ nI w0 = 0 := (fun z => c3 (nn_eq (b := 0) hw0 (by omega) z)); have n1 : ¬ nI w0 = 1 := (fun z => c4 (nn_eq (b := 1) hw0 (by omega) z)); have nr : ¬ nI (w0 % 2) = 0 := (fun z => c6 (nn_eq (b := 0) (by omega) (by omega) z)); ⟨by rw [md_ringV, z0, if_pos rfl, if_neg n0, if_neg n1, ek, ecl, if_neg (fun z => absurd ((nI_leI (by omega) (by omega)).mp z) (Nat.not_le.mpr c5)), er, if_neg nr, nI_clamp (by omega)], rfl⟩)
            · have c6 := nn_eq (a := w0 % 2) (b := 0) (by omega) (by omega) c6
              refine lv_aload_n hx hb dX8_ring_60 rfl (lv_at hl 1 rfl) ?_
              refine md_getr hx hb hts hin_wsX80 hown hC hM 7 (by decide) rfl fl_13 dX8_ring_61 ?_
              refine lv_bipush (v := (8 : Int32)) hx hb dX8_ring_64 (by decide) ?_
              refine lv_iload_n hx hb dX8_ring_66 rfl (lv_at hl 2 rfl) ?_
              refine lv_imul hx hb dX8_ring_67 ?_
              refine mp_top (nI (8 * r)) (pk_mul 8 r) ?_
              refine lv_iload_n hx hb dX8_ring_68 rfl (lv_at hl 0 rfl) ?_
              refine lv_iadd hx hb dX8_ring_69 ?_
              refine mp_top (nI ((8 * r) + ((w0 / 2) - 1))) (nI_add (8 * r) ((w0 / 2) - 1)) ?_
              refine md_iald hx hb hC hM 7 rfl (j := (8 * r) + ((w0 / 2) - 1)) (by omega) (by decide) dX8_ring_70 ?_
              refine lv_goto (tgt := 85) hx hb dX8_ring_71 (by decide) ?_
              exact mp_iret hx hb hr hlocks (Nat.le_of_ble_eq_true rfl) (Nat.le_of_ble_eq_true rfl) hM hS dX8_ring_85 (have z0 : pB (md_in (nI r) 0 (nI pl - 1) ∧ 0 ≤ nI w0) = true := pB_t ⟨by rw [← hpl]; exact pB_iff.mp c1, c2⟩; have ek : nI w0 / 2 - 1 = nI (w0 / 2 - 1) := (by rw [show nI w0 / 2 = nI (w0 / 2) from pk_div (a := w0) (d := 2) (by omega) (by omega) (by omega)]; exact pk_sub (a := w0 / 2) (b := 1) (by omega)); have er : nI w0 - nI w0 / 2 * 2 = nI (w0 % 2) := pk_rem (a := w0) (d := 2) (by omega) (by omega) (by omega); have n0 : ¬ nI w0 = 0 := (fun z => c3 (nn_eq (b := 0) hw0 (by omega) z)); have n1 : ¬ nI w0 = 1 := (fun z => c4 (nn_eq (b := 1) hw0 (by omega) z)); ⟨by rw [md_ringV, z0, if_pos rfl, if_neg n0, if_neg n1, ek, ecl, if_neg (fun z => absurd ((nI_leI (by omega) (by omega)).mp z) (Nat.not_le.mpr c5)), er, if_pos (by rw [c6]; rfl), nI_clamp (by omega)], rfl⟩)
          · have c5 := nn_nlt (a := (w0 / 2) - 1) (b := (co r)) (by omega) (by omega) c5
            refine lv_iconst (v := (-1 : Int32)) hx hb dX8_ring_52 (by decide) ?_
            exact mp_iret hx hb hr hlocks (Nat.le_of_ble_eq_true rfl) (Nat.le_of_ble_eq_true rfl) hM hS dX8_ring_53 (have z0 : pB (md_in (nI r) 0 (nI pl - 1) ∧ 0 ≤ nI w0) = true := pB_t ⟨by rw [← hpl]; exact pB_iff.mp c1, c2⟩; have ek : nI w0 / 2 - 1 = nI (w0 / 2 - 1) := (by rw [show nI w0 / 2 = nI (w0 / 2) from pk_div (a := w0) (d := 2) (by omega) (by omega) (by omega)]; exact pk_sub (a := w0 / 2) (b := 1) (by omega)); have er : nI w0 - nI w0 / 2 * 2 = nI (w0 % 2) := pk_rem (a := w0) (d := 2) (by omega) (by omega) (by omega); have n0 : ¬ nI w0 = 0 := (fun z => c3 (nn_eq (b := 0) hw0 (by omega) z)); have n1 : ¬ nI w0 = 1 := (fun z => c4 (nn_eq (b := 1) hw0 (by omega) z)); ⟨by rw [md_ringV, z0, if_pos rfl, if_neg n0, if_neg n1, ek, ecl, if_pos ((nI_leI (by omega) (by omega)).mpr c5)], rfl⟩)
        · have c4 := nn_eq (a := w0) (b := 1) (by omega) (by omega) c4
          refine lv_aload_n hx hb dX8_ring_30 rfl (lv_at hl 0 rfl) ?_
          refine lv_iload_n hx hb dX8_ring_31 rfl (lv_at hl 1 rfl) ?_
          refine mp_calli (va_runV (As := [.int (nI r)]) (rest := []) ⟨hx, hb, hml, hown, hts⟩ (c_X8_area l X G A B h ad n f r (co r) (by omega) (by omega) (by omega) g1.1) (cwV 1 hts gX8_ring_X8_area rfl rfl rfl (by decide +kernel) ⟨Nat.le_of_ble_eq_true rfl, Nat.le_of_ble_eq_true rfl⟩) (mp_preV hC hS hM (md_recv hC hM)) rfl rfl hl.1 rfl (lv_room (Nat.le_of_ble_eq_true rfl)) dX8_ring_32 ⟨Nat.le_of_ble_eq_true rfl, Nat.le_of_ble_eq_true rfl⟩) hS (fun H locs hM hS => ?_)
          exact mp_iret hx hb hr hlocks (Nat.le_of_ble_eq_true rfl) (Nat.le_of_ble_eq_true rfl) hM hS dX8_ring_35 (have z0 : pB (md_in (nI r) 0 (nI pl - 1) ∧ 0 ≤ nI w0) = true := pB_t ⟨by rw [← hpl]; exact pB_iff.mp c1, c2⟩; have n0 : ¬ nI w0 = 0 := (fun z => c3 (nn_eq (b := 0) hw0 (by omega) z)); ⟨by rw [md_ringV, z0, if_pos rfl, if_neg n0, if_pos (by rw [c4]; rfl), ecl], rfl⟩)
      · have c3 := nn_eq (a := w0) (b := 0) (by omega) (by omega) c3
        refine lv_aload_n hx hb dX8_ring_18 rfl (lv_at hl 0 rfl) ?_
        refine md_getr hx hb hts hin_wsX80 hown hC hM 6 (by decide) rfl fl_7 dX8_ring_19 ?_
        refine lv_iload_n hx hb dX8_ring_22 rfl (lv_at hl 1 rfl) ?_
        refine md_iald hx hb hC hM 6 rfl (j := r) (by omega) (by decide) dX8_ring_23 ?_
        refine mp_top (nI (co r)) g1.1 ?_
        exact mp_iret hx hb hr hlocks (Nat.le_of_ble_eq_true rfl) (Nat.le_of_ble_eq_true rfl) hM hS dX8_ring_24 (have z0 : pB (md_in (nI r) 0 (nI pl - 1) ∧ 0 ≤ nI w0) = true := pB_t ⟨by rw [← hpl]; exact pB_iff.mp c1, c2⟩; ⟨by rw [md_ringV, z0, if_pos rfl, if_pos (by rw [c3]; rfl), ecl, g1.1], rfl⟩)
    · have c2 := c2
      refine lv_iconst (v := (-1 : Int32)) hx hb dX8_ring_12 (by decide) ?_
      exact mp_iret hx hb hr hlocks (Nat.le_of_ble_eq_true rfl) (Nat.le_of_ble_eq_true rfl) hM hS dX8_ring_13 (⟨by rw [md_ringV, pB_f (fun z => c2 z.2)]; rfl, rfl⟩)
abbrev rmX8_four : Room := { frames := 0, cells := 0, slots := 0, locals := 0 }
set_option maxHeartbeats 4000000 in
set_option maxRecDepth 100000 in
theorem c_X8_four (l : Launch) (X : mp_X) (G : mp_G) (A : Nat → Prop) (B : mp_M) (h : Nat) (ad : Nat → Nat) (n : Nat → Int32) (f : Nat → Nat → Int32) (t : Nat) (ht : n 11 = nI t) (ht9 : t + 4 ≤ 600) (v : Int32) : mp_Met l X G A yX8_four wsX8_four rmX8_four ([.ref h, .int v] : List Value) (md_M G B h ad n f) (fun v1 M1 => v1 = none ∧ M1 = md_M G B h ad (upd n 11 (nI (t + 4))) (md_four f t v)) 0 0 := by
  refine mp_ofW (cc := cX8_four) (maxL := 3) (ret := none) (by decide) rfl (Nat.le_of_ble_eq_true rfl) ?_
  intro p e s m below meth c ls hx hb hr hts hown hlocks hnm hml hC hM hS hl
  have hl : lv_has ls 3 [(0, .ref h), (1, .int v)] := hl
  have hown : s.vm.findClass RX8 = some m.cls := hown
  have fl_19 := hts (.fieldLink RX8 19 "PlanningBenchModel" "tape" "[B") (List.mem_of_getElem? (i := 1) rfl)
  have hin_wsX80 : ∀ w ∈ wsX80, w ∈ wsX8_four := fun _ h => List.mem_cons_of_mem _ (List.mem_append_right _ h)
  have fl_160 := hts (.fieldLink RX8 160 "PlanningBenchModel" "taped" "I") (List.mem_of_getElem? (i := 2) rfl)
  refine lv_bipush (v := (24 : Int32)) hx hb dX8_four_0 (by decide) ?_
  refine lv_istore_n (lv' := [(2, .int (24 : Int32)), (0, .ref h), (1, .int v)]) hx hb dX8_four_2 rfl hl (by decide) rfl (fun ls hl => ?_)
  refine lv_iload_n hx hb dX8_four_3 rfl (lv_at hl 0 rfl) ?_
  refine lv_if_lt (tgt := 36) hx hb dX8_four_4 (by decide) (fun c_1 => ?_) (fun c_1 => ?_)
  · have c_1 := c_1
    exact absurd c_1 (by decide)
  · have c_1 := c_1
    refine lv_aload_n hx hb dX8_four_7 rfl (lv_at hl 1 rfl) ?_
    refine md_getr hx hb hts hin_wsX80 hown hC hM 9 (by decide) rfl fl_19 dX8_four_8 ?_
    refine lv_aload_n hx hb dX8_four_11 rfl (lv_at hl 1 rfl) ?_
    refine md_geti hx hb hts hin_wsX80 hown hC hM 11 (by decide) rfl fl_160 dX8_four_12 ?_
    refine mp_top (nI t) ht ?_
    refine lv_iload_n hx hb dX8_four_15 rfl (lv_at hl 2 rfl) ?_
    refine lv_iload_n hx hb dX8_four_16 rfl (lv_at hl 0 rfl) ?_
    refine lv_ishr hx hb dX8_four_17 ?_
    refine lv_i2b hx hb dX8_four_18 rfl ?_
    refine md_bast hx hb hC hM hS 9 rfl (j := t) (by omega) (by decide) dX8_four_19 (fun H locs hM hS => ?_)
    rw [pk_vb] at hM
    refine lv_aload_n hx hb dX8_four_20 rfl (lv_at hl 1 rfl) ?_
    refine lv_dup hx hb dX8_four_21 rfl ?_
    refine md_geti hx hb hts hin_wsX80 hown hC hM 11 (by decide) rfl fl_160 dX8_four_22 ?_
    refine mp_top (nI t) ht ?_
    refine lv_iconst (v := (1 : Int32)) hx hb dX8_four_25 (by decide) ?_
    refine lv_iadd hx hb dX8_four_26 ?_
    refine mp_top (nI (t + 1)) (nI_add t 1) ?_
    refine md_puti hx hb hts hin_wsX80 hown hC hM hS 11 (by decide) rfl rfl rfl fl_160 dX8_four_27 (fun H locs hM hS => ?_)
    refine lv_iinc (v := (16 : Int32)) (lv' := [(2, .int (16 : Int32)), (0, .ref h), (1, .int v)]) hx hb dX8_four_30 hl (k := 0) rfl (by decide) (by decide) rfl (fun ls hl => ?_)
    refine lv_goto (tgt := 3) hx hb dX8_four_33 (by decide) ?_
    refine lv_iload_n hx hb dX8_four_3 rfl (lv_at hl 0 rfl) ?_
    refine lv_if_lt (tgt := 36) hx hb dX8_four_4 (by decide) (fun c_2 => ?_) (fun c_2 => ?_)
    · have c_2 := c_2
      exact absurd c_2 (by decide)
    · have c_2 := c_2
      refine lv_aload_n hx hb dX8_four_7 rfl (lv_at hl 1 rfl) ?_
      refine md_getr hx hb hts hin_wsX80 hown hC hM 9 (by decide) rfl fl_19 dX8_four_8 ?_
      refine lv_aload_n hx hb dX8_four_11 rfl (lv_at hl 1 rfl) ?_
      refine md_geti hx hb hts hin_wsX80 hown hC hM 11 (by decide) rfl fl_160 dX8_four_12 ?_
      refine mp_top (nI (t + 1)) rfl ?_
      refine lv_iload_n hx hb dX8_four_15 rfl (lv_at hl 2 rfl) ?_
      refine lv_iload_n hx hb dX8_four_16 rfl (lv_at hl 0 rfl) ?_
      refine lv_ishr hx hb dX8_four_17 ?_
      refine lv_i2b hx hb dX8_four_18 rfl ?_
      refine md_bast hx hb hC hM hS 9 rfl (j := t + 1) (by omega) (by decide) dX8_four_19 (fun H locs hM hS => ?_)
      rw [pk_vb] at hM
      rw [bx_uu] at hM
      have hM : mp_P G.1 A (md_M G B h ad (upd n 11 (nI (t + 1))) (va_up f 9 (upd (upd (f 9) t ((v >>> ((24 : Int32) &&& 31)).toInt8.toInt32)) (t + 1) ((v >>> ((16 : Int32) &&& 31)).toInt8.toInt32)))) H := hM
      refine lv_aload_n hx hb dX8_four_20 rfl (lv_at hl 1 rfl) ?_
      refine lv_dup hx hb dX8_four_21 rfl ?_
      refine md_geti hx hb hts hin_wsX80 hown hC hM 11 (by decide) rfl fl_160 dX8_four_22 ?_
      refine mp_top (nI (t + 1)) rfl ?_
      refine lv_iconst (v := (1 : Int32)) hx hb dX8_four_25 (by decide) ?_
      refine lv_iadd hx hb dX8_four_26 ?_
      refine mp_top (nI ((t + 1) + 1)) (nI_add (t + 1) 1) ?_
      refine md_puti hx hb hts hin_wsX80 hown hC hM hS 11 (by decide) rfl rfl rfl fl_160 dX8_four_27 (fun H locs hM hS => ?_)
      rw [upd_uu] at hM
      refine lv_iinc (v := (8 : Int32)) (lv' := [(2, .int (8 : Int32)), (0, .ref h), (1, .int v)]) hx hb dX8_four_30 hl (k := 0) rfl (by decide) (by decide) rfl (fun ls hl => ?_)
      refine lv_goto (tgt := 3) hx hb dX8_four_33 (by decide) ?_
      refine lv_iload_n hx hb dX8_four_3 rfl (lv_at hl 0 rfl) ?_
      refine lv_if_lt (tgt := 36) hx hb dX8_four_4 (by decide) (fun c_3 => ?_) (fun c_3 => ?_)
      · have c_3 := c_3
        exact absurd c_3 (by decide)
      · have c_3 := c_3
        refine lv_aload_n hx hb dX8_four_7 rfl (lv_at hl 1 rfl) ?_
        refine md_getr hx hb hts hin_wsX80 hown hC hM 9 (by decide) rfl fl_19 dX8_four_8 ?_
        refine lv_aload_n hx hb dX8_four_11 rfl (lv_at hl 1 rfl) ?_
        refine md_geti hx hb hts hin_wsX80 hown hC hM 11 (by decide) rfl fl_160 dX8_four_12 ?_
        refine mp_top (nI ((t + 1) + 1)) rfl ?_
        refine lv_iload_n hx hb dX8_four_15 rfl (lv_at hl 2 rfl) ?_
        refine lv_iload_n hx hb dX8_four_16 rfl (lv_at hl 0 rfl) ?_
        refine lv_ishr hx hb dX8_four_17 ?_
        refine lv_i2b hx hb dX8_four_18 rfl ?_
        refine md_bast hx hb hC hM hS 9 rfl (j := (t + 1) + 1) (by omega) (by decide) dX8_four_19 (fun H locs hM hS => ?_)
        rw [pk_vb] at hM
        rw [bx_uu] at hM
        have hM : mp_P G.1 A (md_M G B h ad (upd n 11 (nI ((t + 1) + 1))) (va_up f 9 (upd (upd (upd (f 9) t ((v >>> ((24 : Int32) &&& 31)).toInt8.toInt32)) (t + 1) ((v >>> ((16 : Int32) &&& 31)).toInt8.toInt32)) ((t + 1) + 1) ((v >>> ((8 : Int32) &&& 31)).toInt8.toInt32)))) H := hM
        refine lv_aload_n hx hb dX8_four_20 rfl (lv_at hl 1 rfl) ?_
        refine lv_dup hx hb dX8_four_21 rfl ?_
        refine md_geti hx hb hts hin_wsX80 hown hC hM 11 (by decide) rfl fl_160 dX8_four_22 ?_
        refine mp_top (nI ((t + 1) + 1)) rfl ?_
        refine lv_iconst (v := (1 : Int32)) hx hb dX8_four_25 (by decide) ?_
        refine lv_iadd hx hb dX8_four_26 ?_
        refine mp_top (nI (((t + 1) + 1) + 1)) (nI_add ((t + 1) + 1) 1) ?_
        refine md_puti hx hb hts hin_wsX80 hown hC hM hS 11 (by decide) rfl rfl rfl fl_160 dX8_four_27 (fun H locs hM hS => ?_)
        rw [upd_uu] at hM
        refine lv_iinc (v := (0 : Int32)) (lv' := [(2, .int (0 : Int32)), (0, .ref h), (1, .int v)]) hx hb dX8_four_30 hl (k := 0) rfl (by decide) (by decide) rfl (fun ls hl => ?_)
        refine lv_goto (tgt := 3) hx hb dX8_four_33 (by decide) ?_
        refine lv_iload_n hx hb dX8_four_3 rfl (lv_at hl 0 rfl) ?_
        refine lv_if_lt (tgt := 36) hx hb dX8_four_4 (by decide) (fun c_4 => ?_) (fun c_4 => ?_)
        · have c_4 := c_4
          exact absurd c_4 (by decide)
        · have c_4 := c_4
          refine lv_aload_n hx hb dX8_four_7 rfl (lv_at hl 1 rfl) ?_
          refine md_getr hx hb hts hin_wsX80 hown hC hM 9 (by decide) rfl fl_19 dX8_four_8 ?_
          refine lv_aload_n hx hb dX8_four_11 rfl (lv_at hl 1 rfl) ?_
          refine md_geti hx hb hts hin_wsX80 hown hC hM 11 (by decide) rfl fl_160 dX8_four_12 ?_
          refine mp_top (nI (((t + 1) + 1) + 1)) rfl ?_
          refine lv_iload_n hx hb dX8_four_15 rfl (lv_at hl 2 rfl) ?_
          refine lv_iload_n hx hb dX8_four_16 rfl (lv_at hl 0 rfl) ?_
          refine lv_ishr hx hb dX8_four_17 ?_
          refine lv_i2b hx hb dX8_four_18 rfl ?_
          refine md_bast hx hb hC hM hS 9 rfl (j := ((t + 1) + 1) + 1) (by omega) (by decide) dX8_four_19 (fun H locs hM hS => ?_)
          rw [pk_vb] at hM
          rw [bx_uu] at hM
          have hM : mp_P G.1 A (md_M G B h ad (upd n 11 (nI (((t + 1) + 1) + 1))) (va_up f 9 (upd (upd (upd (upd (f 9) t ((v >>> ((24 : Int32) &&& 31)).toInt8.toInt32)) (t + 1) ((v >>> ((16 : Int32) &&& 31)).toInt8.toInt32)) ((t + 1) + 1) ((v >>> ((8 : Int32) &&& 31)).toInt8.toInt32)) (((t + 1) + 1) + 1) ((v >>> ((0 : Int32) &&& 31)).toInt8.toInt32)))) H := hM
          refine lv_aload_n hx hb dX8_four_20 rfl (lv_at hl 1 rfl) ?_
          refine lv_dup hx hb dX8_four_21 rfl ?_
          refine md_geti hx hb hts hin_wsX80 hown hC hM 11 (by decide) rfl fl_160 dX8_four_22 ?_
          refine mp_top (nI (((t + 1) + 1) + 1)) rfl ?_
          refine lv_iconst (v := (1 : Int32)) hx hb dX8_four_25 (by decide) ?_
          refine lv_iadd hx hb dX8_four_26 ?_
          refine mp_top (nI ((((t + 1) + 1) + 1) + 1)) (nI_add (((t + 1) + 1) + 1) 1) ?_
          refine md_puti hx hb hts hin_wsX80 hown hC hM hS 11 (by decide) rfl rfl rfl fl_160 dX8_four_27 (fun H locs hM hS => ?_)
          rw [upd_uu] at hM
          refine lv_iinc (v := (-8 : Int32)) (lv' := [(2, .int (-8 : Int32)), (0, .ref h), (1, .int v)]) hx hb dX8_four_30 hl (k := 0) rfl (by decide) (by decide) rfl (fun ls hl => ?_)
          refine lv_goto (tgt := 3) hx hb dX8_four_33 (by decide) ?_
          refine lv_iload_n hx hb dX8_four_3 rfl (lv_at hl 0 rfl) ?_
          refine lv_if_lt (tgt := 36) hx hb dX8_four_4 (by decide) (fun c_5 => ?_) (fun c_5 => ?_)
          · have c_5 := c_5
            exact mp_vret hx hb hr hlocks (Nat.le_of_ble_eq_true rfl) (Nat.le_of_ble_eq_true rfl) hM hS dX8_four_36 (⟨rfl, rfl⟩)
          · have c_5 := c_5
            exact absurd c_5 (by decide)
abbrev rmX8_feed : Room := { frames := 1, cells := 0, slots := 0, locals := 22 }
set_option maxHeartbeats 4000000 in
set_option maxRecDepth 100000 in
theorem c_X8_feed (l : Launch) (X : mp_X) (G : mp_G) (A : Nat → Prop) (B : mp_M) (h : Nat) (ad : Nat → Nat) (n : Nat → Int32) (f : Nat → Nat → Int32) (t : Nat) (ht : n 11 = nI t) (ht9 : t ≤ 600) (x1 x2 x3 x4 x5 : Int32) : mp_Met l X G A yX8_feed wsX8_feed rmX8_feed ([.ref h, .int x1, .int x2, .int x3, .int x4, .int x5] : List Value) (md_M G B h ad n f) (fun v1 M1 => v1 = some (.int (if t + 20 ≤ 600 then nI (t + 20) else -1)) ∧ M1 = if t + 20 ≤ 600 then md_M G B h ad (upd n 11 (nI (t + 20))) (md_feedF f t x1 x2 x3 x4 x5) else md_M G B h ad n f) 0 0 := by
  refine mp_ofW (cc := cX8_feed) (maxL := 6) (ret := (some .int)) (by decide) rfl (Nat.le_of_ble_eq_true rfl) ?_
  intro p e s m below meth c ls hx hb hr hts hown hlocks hnm hml hC hM hS hl
  have hl : lv_has ls 6 [(0, .ref h), (1, .int x1), (2, .int x2), (3, .int x3), (4, .int x4), (5, .int x5)] := hl
  have hown : s.vm.findClass RX8 = some m.cls := hown
  have fl_160 := hts (.fieldLink RX8 160 "PlanningBenchModel" "taped" "I") (List.mem_of_getElem? (i := 1) rfl)
  have hin_wsX80 : ∀ w ∈ wsX80, w ∈ wsX8_feed := fun _ h => List.mem_cons_of_mem _ (List.mem_append_right _ h)
  refine lv_aload_n hx hb dX8_feed_0 rfl (lv_at hl 0 rfl) ?_
  refine md_geti hx hb hts hin_wsX80 hown hC hM 11 (by decide) rfl fl_160 dX8_feed_1 ?_
  refine mp_top (nI t) ht ?_
  refine lv_bipush (v := (20 : Int32)) hx hb dX8_feed_4 (by decide) ?_
  refine lv_iadd hx hb dX8_feed_6 ?_
  refine mp_top (nI (t + 20)) (nI_add t 20) ?_
  refine lv_sipush (v := (600 : Int32)) hx hb dX8_feed_7 (by decide) ?_
  refine lv_icmp_le (tgt := 15) hx hb dX8_feed_10 (by decide) (fun c1 => ?_) (fun c1 => ?_)
  · have c1 := nn_le (a := t + 20) (b := 600) (by omega) (by omega) c1
    refine lv_aload_n hx hb dX8_feed_15 rfl (lv_at hl 0 rfl) ?_
    refine lv_iload_n hx hb dX8_feed_16 rfl (lv_at hl 1 rfl) ?_
    refine mp_callv (va_runV (As := [.int x1]) (rest := []) ⟨hx, hb, hml, hown, hts⟩ (c_X8_four l X G A B h ad n f (t) ht (by omega) x1) (cwV 1 hts gX8_feed_X8_four rfl rfl rfl (by decide +kernel) ⟨Nat.le_of_ble_eq_true rfl, Nat.le_of_ble_eq_true rfl⟩) (mp_preV hC hS hM (md_recv hC hM)) rfl rfl hl.1 rfl (lv_room (Nat.le_of_ble_eq_true rfl)) dX8_feed_17 ⟨Nat.le_of_ble_eq_true rfl, Nat.le_of_ble_eq_true rfl⟩) hS (fun H locs hM hS => ?_)
    refine lv_aload_n hx hb dX8_feed_20 rfl (lv_at hl 0 rfl) ?_
    refine lv_iload_n hx hb dX8_feed_21 rfl (lv_at hl 2 rfl) ?_
    refine mp_callv (va_runV (As := [.int x2]) (rest := []) ⟨hx, hb, hml, hown, hts⟩ (c_X8_four l X G A B h ad (upd n 11 (nI (t + 4))) (md_four f (t) x1) (t + 4) rfl (by omega) x2) (cwV 1 hts gX8_feed_X8_four rfl rfl rfl (by decide +kernel) ⟨Nat.le_of_ble_eq_true rfl, Nat.le_of_ble_eq_true rfl⟩) (mp_preV hC hS hM (md_recv hC hM)) rfl rfl hl.1 rfl (lv_room (Nat.le_of_ble_eq_true rfl)) dX8_feed_22 ⟨Nat.le_of_ble_eq_true rfl, Nat.le_of_ble_eq_true rfl⟩) hS (fun H locs hM hS => ?_)
    rw [upd_uu] at hM
    refine lv_aload_n hx hb dX8_feed_25 rfl (lv_at hl 0 rfl) ?_
    refine lv_iload_n hx hb dX8_feed_26 rfl (lv_at hl 3 rfl) ?_
    refine mp_callv (va_runV (As := [.int x3]) (rest := []) ⟨hx, hb, hml, hown, hts⟩ (c_X8_four l X G A B h ad (upd n 11 (nI (t + 4 + 4))) (md_four (md_four f (t) x1) (t + 4) x2) (t + 4 + 4) rfl (by omega) x3) (cwV 1 hts gX8_feed_X8_four rfl rfl rfl (by decide +kernel) ⟨Nat.le_of_ble_eq_true rfl, Nat.le_of_ble_eq_true rfl⟩) (mp_preV hC hS hM (md_recv hC hM)) rfl rfl hl.1 rfl (lv_room (Nat.le_of_ble_eq_true rfl)) dX8_feed_27 ⟨Nat.le_of_ble_eq_true rfl, Nat.le_of_ble_eq_true rfl⟩) hS (fun H locs hM hS => ?_)
    rw [upd_uu] at hM
    refine lv_aload_n hx hb dX8_feed_30 rfl (lv_at hl 0 rfl) ?_
    refine lv_iload hx hb dX8_feed_31 (lv_at hl 4 rfl) ?_
    refine mp_callv (va_runV (As := [.int x4]) (rest := []) ⟨hx, hb, hml, hown, hts⟩ (c_X8_four l X G A B h ad (upd n 11 (nI (t + 4 + 4 + 4))) (md_four (md_four (md_four f (t) x1) (t + 4) x2) (t + 4 + 4) x3) (t + 4 + 4 + 4) rfl (by omega) x4) (cwV 1 hts gX8_feed_X8_four rfl rfl rfl (by decide +kernel) ⟨Nat.le_of_ble_eq_true rfl, Nat.le_of_ble_eq_true rfl⟩) (mp_preV hC hS hM (md_recv hC hM)) rfl rfl hl.1 rfl (lv_room (Nat.le_of_ble_eq_true rfl)) dX8_feed_33 ⟨Nat.le_of_ble_eq_true rfl, Nat.le_of_ble_eq_true rfl⟩) hS (fun H locs hM hS => ?_)
    rw [upd_uu] at hM
    refine lv_aload_n hx hb dX8_feed_36 rfl (lv_at hl 0 rfl) ?_
    refine lv_iload hx hb dX8_feed_37 (lv_at hl 5 rfl) ?_
    refine mp_callv (va_runV (As := [.int x5]) (rest := []) ⟨hx, hb, hml, hown, hts⟩ (c_X8_four l X G A B h ad (upd n 11 (nI (t + 4 + 4 + 4 + 4))) (md_four (md_four (md_four (md_four f (t) x1) (t + 4) x2) (t + 4 + 4) x3) (t + 4 + 4 + 4) x4) (t + 4 + 4 + 4 + 4) rfl (by omega) x5) (cwV 1 hts gX8_feed_X8_four rfl rfl rfl (by decide +kernel) ⟨Nat.le_of_ble_eq_true rfl, Nat.le_of_ble_eq_true rfl⟩) (mp_preV hC hS hM (md_recv hC hM)) rfl rfl hl.1 rfl (lv_room (Nat.le_of_ble_eq_true rfl)) dX8_feed_39 ⟨Nat.le_of_ble_eq_true rfl, Nat.le_of_ble_eq_true rfl⟩) hS (fun H locs hM hS => ?_)
    rw [upd_uu] at hM
    refine lv_aload_n hx hb dX8_feed_42 rfl (lv_at hl 0 rfl) ?_
    refine md_geti hx hb hts hin_wsX80 hown hC hM 11 (by decide) rfl fl_160 dX8_feed_43 ?_
    refine mp_top (nI (t + 4 + 4 + 4 + 4 + 4)) rfl ?_
    exact mp_iret hx hb hr hlocks (Nat.le_of_ble_eq_true rfl) (Nat.le_of_ble_eq_true rfl) hM hS dX8_feed_46 (by rw [if_pos c1, if_pos c1]; exact ⟨rfl, rfl⟩)
  · have c1 := nn_nle (a := t + 20) (b := 600) (by omega) (by omega) c1
    refine lv_iconst (v := (-1 : Int32)) hx hb dX8_feed_13 (by decide) ?_
    exact mp_iret hx hb hr hlocks (Nat.le_of_ble_eq_true rfl) (Nat.le_of_ble_eq_true rfl) hM hS dX8_feed_14 (by rw [if_neg (by omega), if_neg (by omega)]; exact ⟨rfl, rfl⟩)
abbrev rmX8_blanks : Room := { frames := 0, cells := 0, slots := 0, locals := 0 }
set_option maxHeartbeats 4000000 in
set_option maxRecDepth 100000 in
theorem c_X8_blanks (l : Launch) (X : mp_X) (G : mp_G) (A : Nat → Prop) (B : mp_M) (h : Nat) (ad : Nat → Nat) (n : Nat → Int32) (f : Nat → Nat → Int32) (sz i : Nat) (hsz : n 12 = nI sz) (hsz9 : sz ≤ 600) (hi : n 13 = nI i) (hi9 : i ≤ sz) : mp_Met l X G A yX8_blanks wsX8_blanks rmX8_blanks ([.ref h] : List Value) (md_M G B h ad n f) (fun v1 M1 => v1 = none ∧ M1 = md_M G B h ad (upd n 13 (nI (tb (f 10) sz i))) f) 0 0 := by
  refine mp_ofW (cc := cX8_blanks) (maxL := 1) (ret := none) (by decide) rfl (Nat.le_of_ble_eq_true rfl) ?_
  intro p e s m below meth c ls hx hb hr hts hown hlocks hnm hml hC hM hS hl
  have hl : lv_has ls 1 [(0, .ref h)] := hl
  have hown : s.vm.findClass RX8 = some m.cls := hown
  have fl_167 := hts (.fieldLink RX8 167 "PlanningBenchModel" "at" "I") (List.mem_of_getElem? (i := 1) rfl)
  have hin_wsX80 : ∀ w ∈ wsX80, w ∈ wsX8_blanks := fun _ h => List.mem_cons_of_mem _ (List.mem_append_right _ h)
  have fl_170 := hts (.fieldLink RX8 170 "PlanningBenchModel" "size" "I") (List.mem_of_getElem? (i := 2) rfl)
  have fl_23 := hts (.fieldLink RX8 23 "PlanningBenchModel" "text" "[B") (List.mem_of_getElem? (i := 3) rfl)
  have LP0 : ∀ (kk : Nat) (j : Nat) (ls : Array Slot) (H : Heap) (locs : List Loc), sz - j < kk → j ≤ sz → tb (f 10) sz i = tb (f 10) sz j → mp_P G.1 A (md_M G B h ad (upd n 13 (nI j)) f) H → va_S A s.heap H locs → lv_has ls 1 [(0, .ref h)] → W p l e rmX8_blanks s m ([.ref h] : List Value).toArray below meth c H locs 0 0 (MQ below (mp_Q G.1 A (fun v1 M1 => v1 = none ∧ M1 = md_M G B h ad (upd n 13 (nI (tb (f 10) sz i))) f)) ([.ref h] : List Value).toArray s 0 0 A) (F0 m 0 ls []) := by
    intro kk
    induction kk with
    | zero => intro j ls H locs hk; exact absurd hk (Nat.not_lt_zero _)
    | succ kk ih =>
      intro j ls H locs hk hj hsk hM hS hl
      refine lv_aload_n hx hb dX8_blanks_0 rfl (lv_at hl 0 rfl) ?_
      refine md_geti hx hb hts hin_wsX80 hown hC hM 13 (by decide) rfl fl_167 dX8_blanks_1 ?_
      refine mp_top (nI j) rfl ?_
      refine lv_aload_n hx hb dX8_blanks_4 rfl (lv_at hl 0 rfl) ?_
      refine md_geti hx hb hts hin_wsX80 hown hC hM 12 (by decide) rfl fl_170 dX8_blanks_5 ?_
      refine mp_top (n 12) rfl ?_
      refine mp_top (nI sz) hsz ?_
      refine lv_icmp_ge (tgt := 52) hx hb dX8_blanks_8 (by decide) (fun c1 => ?_) (fun c1 => ?_)
      · have c1 := nn_le (a := sz) (b := j) (by omega) (by omega) c1
        exact mp_vret hx hb hr hlocks (Nat.le_of_ble_eq_true rfl) (Nat.le_of_ble_eq_true rfl) hM hS dX8_blanks_52 (⟨rfl, by rw [hsk, tb, sk_no (fun z => absurd z.1 (Nat.not_lt.mpr c1))]⟩)
      · have c1 := nn_nle (a := sz) (b := j) (by omega) (by omega) c1
        refine lv_aload_n hx hb dX8_blanks_11 rfl (lv_at hl 0 rfl) ?_
        refine md_getr hx hb hts hin_wsX80 hown hC hM 10 (by decide) rfl fl_23 dX8_blanks_12 ?_
        refine lv_aload_n hx hb dX8_blanks_15 rfl (lv_at hl 0 rfl) ?_
        refine md_geti hx hb hts hin_wsX80 hown hC hM 13 (by decide) rfl fl_167 dX8_blanks_16 ?_
        refine mp_top (nI j) rfl ?_
        refine md_bald hx hb hC hM 10 rfl (j := j) (by omega) (by decide) dX8_blanks_19 ?_
        refine lv_bipush (v := (32 : Int32)) hx hb dX8_blanks_20 (by decide) ?_
        refine lv_icmp_eq (tgt := 39) hx hb dX8_blanks_22 (by decide) (fun c2 => ?_) (fun c2 => ?_)
        · have c2 := c2
          refine lv_aload_n hx hb dX8_blanks_39 rfl (lv_at hl 0 rfl) ?_
          refine lv_dup hx hb dX8_blanks_40 rfl ?_
          refine md_geti hx hb hts hin_wsX80 hown hC hM 13 (by decide) rfl fl_167 dX8_blanks_41 ?_
          refine mp_top (nI j) rfl ?_
          refine lv_iconst (v := (1 : Int32)) hx hb dX8_blanks_44 (by decide) ?_
          refine lv_iadd hx hb dX8_blanks_45 ?_
          refine mp_top (nI (j + 1)) (nI_add j 1) ?_
          refine md_puti hx hb hts hin_wsX80 hown hC hM hS 13 (by decide) rfl rfl rfl fl_167 dX8_blanks_46 (fun H locs hM hS => ?_)
          rw [upd_uu] at hM
          refine lv_goto (tgt := 0) hx hb dX8_blanks_49 (by decide) ?_
          exact ih (j + 1) ls _ _ (by omega) (by omega) (hsk.trans (sk_yes c1 (Or.inl c2))) hM hS hl
        · have c2 := c2
          refine lv_aload_n hx hb dX8_blanks_25 rfl (lv_at hl 0 rfl) ?_
          refine md_getr hx hb hts hin_wsX80 hown hC hM 10 (by decide) rfl fl_23 dX8_blanks_26 ?_
          refine lv_aload_n hx hb dX8_blanks_29 rfl (lv_at hl 0 rfl) ?_
          refine md_geti hx hb hts hin_wsX80 hown hC hM 13 (by decide) rfl fl_167 dX8_blanks_30 ?_
          refine mp_top (nI j) rfl ?_
          refine md_bald hx hb hC hM 10 rfl (j := j) (by omega) (by decide) dX8_blanks_33 ?_
          refine lv_bipush (v := (10 : Int32)) hx hb dX8_blanks_34 (by decide) ?_
          refine lv_icmp_ne (tgt := 52) hx hb dX8_blanks_36 (by decide) (fun c3 => ?_) (fun c3 => ?_)
          · have c3 := c3
            exact mp_vret hx hb hr hlocks (Nat.le_of_ble_eq_true rfl) (Nat.le_of_ble_eq_true rfl) hM hS dX8_blanks_52 (⟨rfl, by rw [hsk, tb, sk_no (fun z => z.2.elim c2 c3)]⟩)
          · have c3 := c3
            refine lv_aload_n hx hb dX8_blanks_39 rfl (lv_at hl 0 rfl) ?_
            refine lv_dup hx hb dX8_blanks_40 rfl ?_
            refine md_geti hx hb hts hin_wsX80 hown hC hM 13 (by decide) rfl fl_167 dX8_blanks_41 ?_
            refine mp_top (nI j) rfl ?_
            refine lv_iconst (v := (1 : Int32)) hx hb dX8_blanks_44 (by decide) ?_
            refine lv_iadd hx hb dX8_blanks_45 ?_
            refine mp_top (nI (j + 1)) (nI_add j 1) ?_
            refine md_puti hx hb hts hin_wsX80 hown hC hM hS 13 (by decide) rfl rfl rfl fl_167 dX8_blanks_46 (fun H locs hM hS => ?_)
            rw [upd_uu] at hM
            refine lv_goto (tgt := 0) hx hb dX8_blanks_49 (by decide) ?_
            exact ih (j + 1) ls _ _ (by omega) (by omega) (hsk.trans (sk_yes c1 (Or.inr c3))) hM hS hl
  exact LP0 _ i ls _ _ (Nat.lt_succ_self _) hi9 rfl (by rw [upd_same hi]; exact hM) hS hl
abbrev rmX8_takes : Room := { frames := 1, cells := 0, slots := 0, locals := 20 }
set_option maxHeartbeats 4000000 in
set_option maxRecDepth 100000 in
theorem c_X8_takes (l : Launch) (X : mp_X) (G : mp_G) (A : Nat → Prop) (B : mp_M) (h : Nat) (ad : Nat → Nat) (n : Nat → Int32) (f : Nat → Nat → Int32) (sz i : Nat) (hsz : n 12 = nI sz) (hsz9 : sz ≤ 600) (hi : n 13 = nI i) (hi9 : i ≤ sz) (cc : Int32) : mp_Met l X G A yX8_takes wsX8_takes rmX8_takes ([.ref h, .int cc] : List Value) (md_M G B h ad n f) (fun v1 M1 => v1 = some (.int (bI (pB (tkP (f 10) sz i cc)))) ∧ M1 = md_M G B h ad (upd n 13 (nI (tkN (f 10) sz i cc))) f) 0 0 := by
  refine mp_ofW (cc := cX8_takes) (maxL := 2) (ret := (some .boolean)) (by decide) rfl (Nat.le_of_ble_eq_true rfl) ?_
  intro p e s m below meth c ls hx hb hr hts hown hlocks hnm hml hC hM hS hl
  have hl : lv_has ls 2 [(0, .ref h), (1, .int cc)] := hl
  have hown : s.vm.findClass RX8 = some m.cls := hown
  have fl_167 := hts (.fieldLink RX8 167 "PlanningBenchModel" "at" "I") (List.mem_of_getElem? (i := 1) rfl)
  have hin_wsX80 : ∀ w ∈ wsX80, w ∈ wsX8_takes := fun _ h => List.mem_cons_of_mem _ (List.mem_append_right _ h)
  have fl_170 := hts (.fieldLink RX8 170 "PlanningBenchModel" "size" "I") (List.mem_of_getElem? (i := 2) rfl)
  have fl_23 := hts (.fieldLink RX8 23 "PlanningBenchModel" "text" "[B") (List.mem_of_getElem? (i := 3) rfl)
  refine lv_aload_n hx hb dX8_takes_0 rfl (lv_at hl 0 rfl) ?_
  have hb_1 := tb_in (t := (f 10)) (sz := sz) (i := i) (by omega)
  refine mp_callv (va_runV (As := []) (rest := []) ⟨hx, hb, hml, hown, hts⟩ (c_X8_blanks l X G A B h ad n f sz i hsz (by omega) hi (by omega)) (cwV 0 hts gX8_takes_X8_blanks rfl rfl rfl (by decide +kernel) ⟨Nat.le_of_ble_eq_true rfl, Nat.le_of_ble_eq_true rfl⟩) (mp_preV hC hS hM (md_recv hC hM)) rfl rfl hl.1 rfl (lv_room (Nat.le_of_ble_eq_true rfl)) dX8_takes_1 ⟨Nat.le_of_ble_eq_true rfl, Nat.le_of_ble_eq_true rfl⟩) hS (fun H locs hM hS => ?_)
  refine lv_aload_n hx hb dX8_takes_4 rfl (lv_at hl 0 rfl) ?_
  refine md_geti hx hb hts hin_wsX80 hown hC hM 13 (by decide) rfl fl_167 dX8_takes_5 ?_
  refine mp_top (nI (tb (f 10) sz i)) rfl ?_
  refine lv_aload_n hx hb dX8_takes_8 rfl (lv_at hl 0 rfl) ?_
  refine md_geti hx hb hts hin_wsX80 hown hC hM 12 (by decide) rfl fl_170 dX8_takes_9 ?_
  refine mp_top (n 12) rfl ?_
  refine mp_top (nI sz) hsz ?_
  refine lv_icmp_eq (tgt := 28) hx hb dX8_takes_12 (by decide) (fun c1 => ?_) (fun c1 => ?_)
  · have c1 := nn_eq (a := tb (f 10) sz i) (b := sz) (by omega) (by omega) c1
    refine lv_iconst (v := (0 : Int32)) hx hb dX8_takes_28 (by decide) ?_
    exact mp_zret hx hb hr hlocks (Nat.le_of_ble_eq_true rfl) (Nat.le_of_ble_eq_true rfl) hM hS dX8_takes_29 (by first | rfl | exact bI_nar _) (have z0 : ¬ tkP (f 10) sz i cc := (fun z => absurd z.1 (by omega)); ⟨b0 z0, by rw [tkN, pB_f z0]; rfl⟩)
  · have c1 := nn_neq (a := tb (f 10) sz i) (b := sz) (by omega) (by omega) c1
    refine lv_aload_n hx hb dX8_takes_15 rfl (lv_at hl 0 rfl) ?_
    refine md_getr hx hb hts hin_wsX80 hown hC hM 10 (by decide) rfl fl_23 dX8_takes_16 ?_
    refine lv_aload_n hx hb dX8_takes_19 rfl (lv_at hl 0 rfl) ?_
    refine md_geti hx hb hts hin_wsX80 hown hC hM 13 (by decide) rfl fl_167 dX8_takes_20 ?_
    refine mp_top (nI (tb (f 10) sz i)) rfl ?_
    refine md_bald hx hb hC hM 10 rfl (j := tb (f 10) sz i) (by omega) (by decide) dX8_takes_23 ?_
    refine lv_iload_n hx hb dX8_takes_24 rfl (lv_at hl 1 rfl) ?_
    refine lv_icmp_eq (tgt := 30) hx hb dX8_takes_25 (by decide) (fun c2 => ?_) (fun c2 => ?_)
    · have c2 := c2
      refine lv_aload_n hx hb dX8_takes_30 rfl (lv_at hl 0 rfl) ?_
      refine lv_dup hx hb dX8_takes_31 rfl ?_
      refine md_geti hx hb hts hin_wsX80 hown hC hM 13 (by decide) rfl fl_167 dX8_takes_32 ?_
      refine mp_top (nI (tb (f 10) sz i)) rfl ?_
      refine lv_iconst (v := (1 : Int32)) hx hb dX8_takes_35 (by decide) ?_
      refine lv_iadd hx hb dX8_takes_36 ?_
      refine mp_top (nI ((tb (f 10) sz i) + 1)) (nI_add (tb (f 10) sz i) 1) ?_
      refine md_puti hx hb hts hin_wsX80 hown hC hM hS 13 (by decide) rfl rfl rfl fl_167 dX8_takes_37 (fun H locs hM hS => ?_)
      rw [upd_uu] at hM
      refine lv_iconst (v := (1 : Int32)) hx hb dX8_takes_40 (by decide) ?_
      exact mp_zret hx hb hr hlocks (Nat.le_of_ble_eq_true rfl) (Nat.le_of_ble_eq_true rfl) hM hS dX8_takes_41 (by first | rfl | exact bI_nar _) (have z0 : tkP (f 10) sz i cc := ⟨by omega, c2⟩; ⟨b1 z0, by rw [tkN, pB_t z0]; rfl⟩)
    · have c2 := c2
      refine lv_iconst (v := (0 : Int32)) hx hb dX8_takes_28 (by decide) ?_
      exact mp_zret hx hb hr hlocks (Nat.le_of_ble_eq_true rfl) (Nat.le_of_ble_eq_true rfl) hM hS dX8_takes_29 (by first | rfl | exact bI_nar _) (have z0 : ¬ tkP (f 10) sz i cc := (fun z => c2 z.2); ⟨b0 z0, by rw [tkN, pB_f z0]; rfl⟩)
