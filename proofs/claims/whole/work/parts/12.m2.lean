/-! ===== choices ===== -/
def oI (o : Option Nat) : Int32 := match o with
  | none => -1
  | some j => nI j
/-- the last of the best: of those with P, by fr -/
noncomputable def bst (P : Nat → Prop) (fr : Nat → Int32) : Nat → Option Nat
  | 0 => none
  | i + 1 => if pB (P i ∧ ∀ j, bst P fr i = some j → fr j ≤ fr i) then some i else bst P fr i
theorem bst_some {P : Nat → Prop} {fr : Nat → Int32} : ∀ {i j : Nat}, bst P fr i = some j → j < i ∧ P j
  | 0, j, h => by cases h
  | i + 1, j, h => by
    rw [bst] at h
    by_cases q : P i ∧ ∀ j, bst P fr i = some j → fr j ≤ fr i
    · rw [pB_t q, if_pos rfl] at h
      cases h
      exact ⟨Nat.lt_succ_self _, q.1⟩
    · rw [pB_f q, if_neg (by decide)] at h
      have := bst_some h
      exact ⟨Nat.lt_succ_of_lt this.1, this.2⟩
theorem bst_yes {P : Nat → Prop} {fr : Nat → Int32} {i : Nat} (h : P i) (h2 : ∀ j, bst P fr i = some j → fr j ≤ fr i) : bst P fr (i + 1) = some i := by rw [bst, pB_t ⟨h, h2⟩]; rfl
theorem bst_no {P : Nat → Prop} {fr : Nat → Int32} {i : Nat} (h : ¬ (P i ∧ ∀ j, bst P fr i = some j → fr j ≤ fr i)) : bst P fr (i + 1) = bst P fr i := by rw [bst, pB_f h]; rfl
/-- the first with P -/
noncomputable def fst (P : Nat → Prop) : Nat → Option Nat
  | 0 => none
  | i + 1 => match fst P i with
    | some j => some j
    | none => if pB (P i) then some i else none
theorem fst_some {P : Nat → Prop} : ∀ {i j : Nat}, fst P i = some j → j < i ∧ P j
  | 0, j, h => by cases h
  | i + 1, j, h => by
    rw [fst] at h
    cases hf : fst P i with
    | some j' =>
      rw [hf] at h
      cases h
      have := fst_some hf
      exact ⟨Nat.lt_succ_of_lt this.1, this.2⟩
    | none =>
      rw [hf] at h
      by_cases q : P i
      · simp only [pB_t q, if_true] at h
        cases h
        exact ⟨Nat.lt_succ_self _, q⟩
      · simp only [pB_f q] at h
        cases h
theorem fst_yes {P : Nat → Prop} {i : Nat} (h : fst P i = none) (q : P i) : fst P (i + 1) = some i := by rw [fst, h]; simp only [pB_t q, if_true]
theorem fst_no {P : Nat → Prop} {i : Nat} (h : fst P i = none) (q : ¬ P i) : fst P (i + 1) = none := by rw [fst, h]; simp only [pB_f q]; rfl
theorem fst_mono {P : Nat → Prop} {i j : Nat} (h : fst P i = some j) : ∀ k, fst P (i + k) = some j
  | 0 => h
  | k + 1 => by rw [← Nat.add_assoc, fst, fst_mono h k]
theorem fst_up {P : Nat → Prop} {i j k : Nat} (h : fst P i = some j) (hk : i ≤ k) : fst P k = some j := by
  have := fst_mono h (k - i)
  rwa [show i + (k - i) = k by omega] at this
theorem nI_nm1 {j : Nat} (h : j < 2 ^ 31) : ¬ nI j = -1 := fun q => by
  have e := congrArg Int32.toInt q
  rw [nI_toInt h] at e
  have e2 : (-1 : Int32).toInt = -1 := rfl
  omega
def md_stood (f : Nat → Nat → Int32) (a : Nat) (d k : Int32) : Prop := f 36 a ≠ -1 ∧ f 36 a ≤ d ∧ f 36 a ≤ k ∧ (f 37 a = -1 ∨ k < f 38 a ∨ d < f 37 a)
def md_meets (f : Nat → Nat → Int32) (a : Nat) (x0 y0 x1 y1 : Int32) : Prop := x0 < x1 ∧ y0 < y1 ∧ x0 < f 26 a ∧ f 24 a < x1 ∧ y0 < f 27 a ∧ f 25 a < y1
def md_design (x0 y0 x1 y1 ht us : Int32) : Prop := md_in x0 0 63 ∧ md_in x1 0 63 ∧ md_in y0 0 63 ∧ md_in y1 0 63 ∧ x0 < x1 ∧ y0 < y1 ∧ md_in ht 1 40 ∧ md_in us 0 7
noncomputable def md_how (n : Nat → Int32) (f : Nat → Nat → Int32) (a : Nat) : Int32 := if pB (f 31 a = 1 ∧ f 34 a + 400 < n 0 ∨ f 31 a = 3 ∧ f 35 a + 300 < n 0) then 5 else f 31 a
def md_planP (f : Nat → Nat → Int32) (d k : Int32) (i : Nat) : Prop := f 15 i ≤ d ∧ f 16 i ≤ k
def zbit (x q : Int32) : Prop := x >>> (q &&& 31) &&& 1 = 1
def md_stands (f : Nat → Nat → Int32) (ap : Nat) (q d k : Int32) : Prop := md_in q 0 (nI ap - 1) ∧ md_in d 0 9999 ∧ md_in k 0 9999 ∧ md_stood f q.toNatClampNeg d k
noncomputable def md_plan (f : Nat → Nat → Int32) (pn : Nat) (d k : Int32) : Int32 := if pB (md_in d 0 9999 ∧ md_in k 0 9999) then oI (bst (md_planP f d k) (f 15) pn) else -1
noncomputable def md_zoneO (f : Nat → Nat → Int32) (p0 zm r : Nat) : Option Nat := (fst (fun j => zbit (f 18 (8 * p0 + j)) (nI r)) zm).map (fun j => 8 * p0 + j)
abbrev rmX8_stood : Room := { frames := 0, cells := 0, slots := 0, locals := 0 }
set_option maxHeartbeats 4000000 in
set_option maxRecDepth 100000 in
theorem c_X8_stood (l : Launch) (X : mp_X) (G : mp_G) (A : Nat → Prop) (B : mp_M) (h : Nat) (ad : Nat → Nat) (n : Nat → Int32) (f : Nat → Nat → Int32) (a : Nat) (ha : a < 40) (d k : Int32) : mp_Met l X G A yX8_stood wsX8_stood rmX8_stood ([.ref h, .int (nI a), .int d, .int k] : List Value) (md_M G B h ad n f) (fun v M1 => v = some (.int (bI (pB (md_stood f a d k)))) ∧ M1 = md_M G B h ad n f) 0 0 := by
  refine mp_ofW (cc := cX8_stood) (maxL := 4) (ret := (some .boolean)) (by decide) rfl (Nat.le_of_ble_eq_true rfl) ?_
  intro p e s m below meth c ls hx hb hr hts hown hlocks hnm hml hC hM hS hl
  have hl : lv_has ls 4 [(0, .ref h), (1, .int (nI a)), (2, .int d), (3, .int k)] := hl
  have hown : s.vm.findClass RX8 = some m.cls := hown
  have fl_87 := hts (.fieldLink RX8 87 "PlanningBenchModel" "done" "[I") (List.mem_of_getElem? (i := 1) rfl)
  have hin_wsX80 : ∀ w ∈ wsX80, w ∈ wsX8_stood := fun _ h => List.mem_cons_of_mem _ (List.mem_append_right _ h)
  have fl_90 := hts (.fieldLink RX8 90 "PlanningBenchModel" "razed" "[I") (List.mem_of_getElem? (i := 2) rfl)
  have fl_93 := hts (.fieldLink RX8 93 "PlanningBenchModel" "razeKnown" "[I") (List.mem_of_getElem? (i := 3) rfl)
  refine lv_aload_n hx hb dX8_stood_0 rfl (lv_at hl 0 rfl) ?_
  refine md_getr hx hb hts hin_wsX80 hown hC hM 36 (by decide) rfl fl_87 dX8_stood_1 ?_
  refine lv_iload_n hx hb dX8_stood_4 rfl (lv_at hl 1 rfl) ?_
  refine md_iald hx hb hC hM 36 rfl (j := a) (by omega) (by decide) dX8_stood_5 ?_
  refine lv_iconst (v := (-1 : Int32)) hx hb dX8_stood_6 (by decide) ?_
  refine lv_icmp_eq (tgt := 30) hx hb dX8_stood_7 (by decide) (fun c1 => ?_) (fun c1 => ?_)
  · have c1 := c1
    refine lv_iconst (v := (0 : Int32)) hx hb dX8_stood_30 (by decide) ?_
    exact mp_zret hx hb hr hlocks (Nat.le_of_ble_eq_true rfl) (Nat.le_of_ble_eq_true rfl) hM hS dX8_stood_31 (by first | rfl | exact bI_nar _) (⟨b0 (fun q => by first | exact q.1 c1 | exact absurd q.2.1 (i_nle.mpr c2) | exact c3 q.2.2.1), rfl⟩)
  · have c1 := c1
    refine lv_aload_n hx hb dX8_stood_10 rfl (lv_at hl 0 rfl) ?_
    refine md_getr hx hb hts hin_wsX80 hown hC hM 36 (by decide) rfl fl_87 dX8_stood_11 ?_
    refine lv_iload_n hx hb dX8_stood_14 rfl (lv_at hl 1 rfl) ?_
    refine md_iald hx hb hC hM 36 rfl (j := a) (by omega) (by decide) dX8_stood_15 ?_
    refine lv_iload_n hx hb dX8_stood_16 rfl (lv_at hl 2 rfl) ?_
    refine lv_icmp_gt (tgt := 30) hx hb dX8_stood_17 (by decide) (fun c2 => ?_) (fun c2 => ?_)
    · have c2 := c2
      refine lv_iconst (v := (0 : Int32)) hx hb dX8_stood_30 (by decide) ?_
      exact mp_zret hx hb hr hlocks (Nat.le_of_ble_eq_true rfl) (Nat.le_of_ble_eq_true rfl) hM hS dX8_stood_31 (by first | rfl | exact bI_nar _) (⟨b0 (fun q => by first | exact q.1 c1 | exact absurd q.2.1 (i_nle.mpr c2) | exact c3 q.2.2.1), rfl⟩)
    · have c2 := c2
      refine lv_aload_n hx hb dX8_stood_20 rfl (lv_at hl 0 rfl) ?_
      refine md_getr hx hb hts hin_wsX80 hown hC hM 36 (by decide) rfl fl_87 dX8_stood_21 ?_
      refine lv_iload_n hx hb dX8_stood_24 rfl (lv_at hl 1 rfl) ?_
      refine md_iald hx hb hC hM 36 rfl (j := a) (by omega) (by decide) dX8_stood_25 ?_
      refine lv_iload_n hx hb dX8_stood_26 rfl (lv_at hl 3 rfl) ?_
      refine lv_icmp_le (tgt := 32) hx hb dX8_stood_27 (by decide) (fun c3 => ?_) (fun c3 => ?_)
      · have c3 := c3
        refine lv_aload_n hx hb dX8_stood_32 rfl (lv_at hl 0 rfl) ?_
        refine md_getr hx hb hts hin_wsX80 hown hC hM 37 (by decide) rfl fl_90 dX8_stood_33 ?_
        refine lv_iload_n hx hb dX8_stood_36 rfl (lv_at hl 1 rfl) ?_
        refine md_iald hx hb hC hM 37 rfl (j := a) (by omega) (by decide) dX8_stood_37 ?_
        refine lv_iconst (v := (-1 : Int32)) hx hb dX8_stood_38 (by decide) ?_
        refine lv_icmp_eq (tgt := 62) hx hb dX8_stood_39 (by decide) (fun c4 => ?_) (fun c4 => ?_)
        · have c4 := c4
          refine lv_iconst (v := (1 : Int32)) hx hb dX8_stood_62 (by decide) ?_
          refine lv_goto (tgt := 67) hx hb dX8_stood_63 (by decide) ?_
          exact mp_zret hx hb hr hlocks (Nat.le_of_ble_eq_true rfl) (Nat.le_of_ble_eq_true rfl) hM hS dX8_stood_67 (by first | rfl | exact bI_nar _) (⟨b1 ⟨c1, i_nlt.mp c2, c3, Or.inl c4⟩, rfl⟩)
        · have c4 := c4
          refine lv_aload_n hx hb dX8_stood_42 rfl (lv_at hl 0 rfl) ?_
          refine md_getr hx hb hts hin_wsX80 hown hC hM 38 (by decide) rfl fl_93 dX8_stood_43 ?_
          refine lv_iload_n hx hb dX8_stood_46 rfl (lv_at hl 1 rfl) ?_
          refine md_iald hx hb hC hM 38 rfl (j := a) (by omega) (by decide) dX8_stood_47 ?_
          refine lv_iload_n hx hb dX8_stood_48 rfl (lv_at hl 3 rfl) ?_
          refine lv_icmp_gt (tgt := 62) hx hb dX8_stood_49 (by decide) (fun c5 => ?_) (fun c5 => ?_)
          · have c5 := c5
            refine lv_iconst (v := (1 : Int32)) hx hb dX8_stood_62 (by decide) ?_
            refine lv_goto (tgt := 67) hx hb dX8_stood_63 (by decide) ?_
            exact mp_zret hx hb hr hlocks (Nat.le_of_ble_eq_true rfl) (Nat.le_of_ble_eq_true rfl) hM hS dX8_stood_67 (by first | rfl | exact bI_nar _) (⟨b1 ⟨c1, i_nlt.mp c2, c3, Or.inr (Or.inl c5)⟩, rfl⟩)
          · have c5 := c5
            refine lv_iload_n hx hb dX8_stood_52 rfl (lv_at hl 2 rfl) ?_
            refine lv_aload_n hx hb dX8_stood_53 rfl (lv_at hl 0 rfl) ?_
            refine md_getr hx hb hts hin_wsX80 hown hC hM 37 (by decide) rfl fl_90 dX8_stood_54 ?_
            refine lv_iload_n hx hb dX8_stood_57 rfl (lv_at hl 1 rfl) ?_
            refine md_iald hx hb hC hM 37 rfl (j := a) (by omega) (by decide) dX8_stood_58 ?_
            refine lv_icmp_ge (tgt := 66) hx hb dX8_stood_59 (by decide) (fun c6 => ?_) (fun c6 => ?_)
            · have c6 := c6
              refine lv_iconst (v := (0 : Int32)) hx hb dX8_stood_66 (by decide) ?_
              exact mp_zret hx hb hr hlocks (Nat.le_of_ble_eq_true rfl) (Nat.le_of_ble_eq_true rfl) hM hS dX8_stood_67 (by first | rfl | exact bI_nar _) (⟨b0 (fun q => q.2.2.2.elim c4 (fun q => q.elim c5 (fun q => absurd c6 (i_nle.mpr q)))), rfl⟩)
            · have c6 := c6
              refine lv_iconst (v := (1 : Int32)) hx hb dX8_stood_62 (by decide) ?_
              refine lv_goto (tgt := 67) hx hb dX8_stood_63 (by decide) ?_
              exact mp_zret hx hb hr hlocks (Nat.le_of_ble_eq_true rfl) (Nat.le_of_ble_eq_true rfl) hM hS dX8_stood_67 (by first | rfl | exact bI_nar _) (⟨b1 ⟨c1, i_nlt.mp c2, c3, Or.inr (Or.inr (i_nle.mp c6))⟩, rfl⟩)
      · have c3 := c3
        refine lv_iconst (v := (0 : Int32)) hx hb dX8_stood_30 (by decide) ?_
        exact mp_zret hx hb hr hlocks (Nat.le_of_ble_eq_true rfl) (Nat.le_of_ble_eq_true rfl) hM hS dX8_stood_31 (by first | rfl | exact bI_nar _) (⟨b0 (fun q => by first | exact q.1 c1 | exact absurd q.2.1 (i_nle.mpr c2) | exact c3 q.2.2.1), rfl⟩)
abbrev rmX8_meets : Room := { frames := 0, cells := 0, slots := 0, locals := 0 }
set_option maxHeartbeats 4000000 in
set_option maxRecDepth 100000 in
theorem c_X8_meets (l : Launch) (X : mp_X) (G : mp_G) (A : Nat → Prop) (B : mp_M) (h : Nat) (ad : Nat → Nat) (n : Nat → Int32) (f : Nat → Nat → Int32) (a : Nat) (ha : a < 40) (x0 y0 x1 y1 : Int32) : mp_Met l X G A yX8_meets wsX8_meets rmX8_meets ([.ref h, .int (nI a), .int x0, .int y0, .int x1, .int y1] : List Value) (md_M G B h ad n f) (fun v M1 => v = some (.int (bI (pB (md_meets f a x0 y0 x1 y1)))) ∧ M1 = md_M G B h ad n f) 0 0 := by
  refine mp_ofW (cc := cX8_meets) (maxL := 6) (ret := (some .boolean)) (by decide) rfl (Nat.le_of_ble_eq_true rfl) ?_
  intro p e s m below meth c ls hx hb hr hts hown hlocks hnm hml hC hM hS hl
  have hl : lv_has ls 6 [(0, .ref h), (1, .int (nI a)), (2, .int x0), (3, .int y0), (4, .int x1), (5, .int y1)] := hl
  have hown : s.vm.findClass RX8 = some m.cls := hown
  have fl_57 := hts (.fieldLink RX8 57 "PlanningBenchModel" "x1s" "[I") (List.mem_of_getElem? (i := 1) rfl)
  have hin_wsX80 : ∀ w ∈ wsX80, w ∈ wsX8_meets := fun _ h => List.mem_cons_of_mem _ (List.mem_append_right _ h)
  have fl_51 := hts (.fieldLink RX8 51 "PlanningBenchModel" "x0s" "[I") (List.mem_of_getElem? (i := 2) rfl)
  have fl_60 := hts (.fieldLink RX8 60 "PlanningBenchModel" "y1s" "[I") (List.mem_of_getElem? (i := 3) rfl)
  have fl_54 := hts (.fieldLink RX8 54 "PlanningBenchModel" "y0s" "[I") (List.mem_of_getElem? (i := 4) rfl)
  refine lv_iload_n hx hb dX8_meets_0 rfl (lv_at hl 2 rfl) ?_
  refine lv_iload hx hb dX8_meets_1 (lv_at hl 4 rfl) ?_
  refine lv_icmp_ge (tgt := 58) hx hb dX8_meets_3 (by decide) (fun c1 => ?_) (fun c1 => ?_)
  · have c1 := c1
    refine lv_iconst (v := (0 : Int32)) hx hb dX8_meets_58 (by decide) ?_
    exact mp_zret hx hb hr hlocks (Nat.le_of_ble_eq_true rfl) (Nat.le_of_ble_eq_true rfl) hM hS dX8_meets_59 (by first | rfl | exact bI_nar _) (⟨b0 (fun q => absurd q.1 (i_nlt.mpr c1)), rfl⟩)
  · have c1 := c1
    refine lv_iload_n hx hb dX8_meets_6 rfl (lv_at hl 3 rfl) ?_
    refine lv_iload hx hb dX8_meets_7 (lv_at hl 5 rfl) ?_
    refine lv_icmp_ge (tgt := 58) hx hb dX8_meets_9 (by decide) (fun c2 => ?_) (fun c2 => ?_)
    · have c2 := c2
      refine lv_iconst (v := (0 : Int32)) hx hb dX8_meets_58 (by decide) ?_
      exact mp_zret hx hb hr hlocks (Nat.le_of_ble_eq_true rfl) (Nat.le_of_ble_eq_true rfl) hM hS dX8_meets_59 (by first | rfl | exact bI_nar _) (⟨b0 (fun q => absurd q.2.1 (i_nlt.mpr c2)), rfl⟩)
    · have c2 := c2
      refine lv_iload_n hx hb dX8_meets_12 rfl (lv_at hl 2 rfl) ?_
      refine lv_aload_n hx hb dX8_meets_13 rfl (lv_at hl 0 rfl) ?_
      refine md_getr hx hb hts hin_wsX80 hown hC hM 26 (by decide) rfl fl_57 dX8_meets_14 ?_
      refine lv_iload_n hx hb dX8_meets_17 rfl (lv_at hl 1 rfl) ?_
      refine md_iald hx hb hC hM 26 rfl (j := a) (by omega) (by decide) dX8_meets_18 ?_
      refine lv_icmp_ge (tgt := 58) hx hb dX8_meets_19 (by decide) (fun c3 => ?_) (fun c3 => ?_)
      · have c3 := c3
        refine lv_iconst (v := (0 : Int32)) hx hb dX8_meets_58 (by decide) ?_
        exact mp_zret hx hb hr hlocks (Nat.le_of_ble_eq_true rfl) (Nat.le_of_ble_eq_true rfl) hM hS dX8_meets_59 (by first | rfl | exact bI_nar _) (⟨b0 (fun q => absurd q.2.2.1 (i_nlt.mpr c3)), rfl⟩)
      · have c3 := c3
        refine lv_aload_n hx hb dX8_meets_22 rfl (lv_at hl 0 rfl) ?_
        refine md_getr hx hb hts hin_wsX80 hown hC hM 24 (by decide) rfl fl_51 dX8_meets_23 ?_
        refine lv_iload_n hx hb dX8_meets_26 rfl (lv_at hl 1 rfl) ?_
        refine md_iald hx hb hC hM 24 rfl (j := a) (by omega) (by decide) dX8_meets_27 ?_
        refine lv_iload hx hb dX8_meets_28 (lv_at hl 4 rfl) ?_
        refine lv_icmp_ge (tgt := 58) hx hb dX8_meets_30 (by decide) (fun c4 => ?_) (fun c4 => ?_)
        · have c4 := c4
          refine lv_iconst (v := (0 : Int32)) hx hb dX8_meets_58 (by decide) ?_
          exact mp_zret hx hb hr hlocks (Nat.le_of_ble_eq_true rfl) (Nat.le_of_ble_eq_true rfl) hM hS dX8_meets_59 (by first | rfl | exact bI_nar _) (⟨b0 (fun q => absurd q.2.2.2.1 (i_nlt.mpr c4)), rfl⟩)
        · have c4 := c4
          refine lv_iload_n hx hb dX8_meets_33 rfl (lv_at hl 3 rfl) ?_
          refine lv_aload_n hx hb dX8_meets_34 rfl (lv_at hl 0 rfl) ?_
          refine md_getr hx hb hts hin_wsX80 hown hC hM 27 (by decide) rfl fl_60 dX8_meets_35 ?_
          refine lv_iload_n hx hb dX8_meets_38 rfl (lv_at hl 1 rfl) ?_
          refine md_iald hx hb hC hM 27 rfl (j := a) (by omega) (by decide) dX8_meets_39 ?_
          refine lv_icmp_ge (tgt := 58) hx hb dX8_meets_40 (by decide) (fun c5 => ?_) (fun c5 => ?_)
          · have c5 := c5
            refine lv_iconst (v := (0 : Int32)) hx hb dX8_meets_58 (by decide) ?_
            exact mp_zret hx hb hr hlocks (Nat.le_of_ble_eq_true rfl) (Nat.le_of_ble_eq_true rfl) hM hS dX8_meets_59 (by first | rfl | exact bI_nar _) (⟨b0 (fun q => absurd q.2.2.2.2.1 (i_nlt.mpr c5)), rfl⟩)
          · have c5 := c5
            refine lv_aload_n hx hb dX8_meets_43 rfl (lv_at hl 0 rfl) ?_
            refine md_getr hx hb hts hin_wsX80 hown hC hM 25 (by decide) rfl fl_54 dX8_meets_44 ?_
            refine lv_iload_n hx hb dX8_meets_47 rfl (lv_at hl 1 rfl) ?_
            refine md_iald hx hb hC hM 25 rfl (j := a) (by omega) (by decide) dX8_meets_48 ?_
            refine lv_iload hx hb dX8_meets_49 (lv_at hl 5 rfl) ?_
            refine lv_icmp_ge (tgt := 58) hx hb dX8_meets_51 (by decide) (fun c6 => ?_) (fun c6 => ?_)
            · have c6 := c6
              refine lv_iconst (v := (0 : Int32)) hx hb dX8_meets_58 (by decide) ?_
              exact mp_zret hx hb hr hlocks (Nat.le_of_ble_eq_true rfl) (Nat.le_of_ble_eq_true rfl) hM hS dX8_meets_59 (by first | rfl | exact bI_nar _) (⟨b0 (fun q => absurd q.2.2.2.2.2 (i_nlt.mpr c6)), rfl⟩)
            · have c6 := c6
              refine lv_iconst (v := (1 : Int32)) hx hb dX8_meets_54 (by decide) ?_
              refine lv_goto (tgt := 59) hx hb dX8_meets_55 (by decide) ?_
              exact mp_zret hx hb hr hlocks (Nat.le_of_ble_eq_true rfl) (Nat.le_of_ble_eq_true rfl) hM hS dX8_meets_59 (by first | rfl | exact bI_nar _) (⟨b1 ⟨i_nle.mp c1, i_nle.mp c2, i_nle.mp c3, i_nle.mp c4, i_nle.mp c5, i_nle.mp c6⟩, rfl⟩)
abbrev rmX8_isDesign : Room := { frames := 1, cells := 0, slots := 0, locals := 22 }
set_option maxHeartbeats 4000000 in
set_option maxRecDepth 100000 in
theorem c_X8_isDesign (l : Launch) (X : mp_X) (G : mp_G) (A : Nat → Prop) (M : mp_M) (x0 y0 x1 y1 ht us : Int32) : mp_Met l X G A yX8_isDesign wsX8_isDesign rmX8_isDesign ([.int x0, .int y0, .int x1, .int y1, .int ht, .int us] : List Value) M (fun v M1 => v = some (.int (bI (pB (md_design x0 y0 x1 y1 ht us)))) ∧ M1 = M) 0 0 := by
  refine mp_ofW (cc := cX8_isDesign) (maxL := 6) (ret := (some .boolean)) (by decide) rfl (Nat.le_of_ble_eq_true rfl) ?_
  intro p e s m below meth c ls hx hb hr hts hown hlocks hnm hml hC hM hS hl
  have hl : lv_has ls 6 [(0, .int x0), (1, .int y0), (2, .int x1), (3, .int y1), (4, .int ht), (5, .int us)] := hl
  have hown : s.vm.findClass RX8 = some m.cls := hown
  refine lv_iload_n hx hb dX8_isDesign_0 rfl (lv_at hl 0 rfl) ?_
  refine lv_iconst (v := (0 : Int32)) hx hb dX8_isDesign_1 (by decide) ?_
  refine lv_bipush (v := (63 : Int32)) hx hb dX8_isDesign_2 (by decide) ?_
  refine mp_calli (va_runS (As := [.int x0, .int (0 : Int32), .int (63 : Int32)]) (rest := []) ⟨hx, hb, hml, hown, hts⟩ (c_X8_isIn l X G A (M) x0 (0 : Int32) (63 : Int32)) (va_cwS 3 hts gX8_isDesign_X8_isIn rfl rfl rfl (by decide +kernel) ⟨Nat.le_of_ble_eq_true rfl, Nat.le_of_ble_eq_true rfl⟩) (mp_preS hC hS hM) rfl rfl hl.1 rfl (lv_room (Nat.le_of_ble_eq_true rfl)) dX8_isDesign_4 ⟨Nat.le_of_ble_eq_true rfl, Nat.le_of_ble_eq_true rfl⟩) hS (fun H locs hM hS => ?_)
  refine lv_if_eq (tgt := 76) hx hb dX8_isDesign_7 (by decide) (fun c1 => ?_) (fun c1 => ?_)
  · have c1 : (pB (md_in x0 (0 : Int32) (63 : Int32))) = false := bI_0.mp c1
    refine lv_iconst (v := (0 : Int32)) hx hb dX8_isDesign_76 (by decide) ?_
    exact mp_zret hx hb hr hlocks (Nat.le_of_ble_eq_true rfl) (Nat.le_of_ble_eq_true rfl) hM hS dX8_isDesign_77 (by first | rfl | exact bI_nar _) (⟨b0 (fun q => pB_not.mp c1 q.1), rfl⟩)
  · have c1 : (pB (md_in x0 (0 : Int32) (63 : Int32))) = true := bI_1.mp c1
    refine lv_iload_n hx hb dX8_isDesign_10 rfl (lv_at hl 2 rfl) ?_
    refine lv_iconst (v := (0 : Int32)) hx hb dX8_isDesign_11 (by decide) ?_
    refine lv_bipush (v := (63 : Int32)) hx hb dX8_isDesign_12 (by decide) ?_
    refine mp_calli (va_runS (As := [.int x1, .int (0 : Int32), .int (63 : Int32)]) (rest := []) ⟨hx, hb, hml, hown, hts⟩ (c_X8_isIn l X G A (M) x1 (0 : Int32) (63 : Int32)) (va_cwS 3 hts gX8_isDesign_X8_isIn rfl rfl rfl (by decide +kernel) ⟨Nat.le_of_ble_eq_true rfl, Nat.le_of_ble_eq_true rfl⟩) (mp_preS hC hS hM) rfl rfl hl.1 rfl (lv_room (Nat.le_of_ble_eq_true rfl)) dX8_isDesign_14 ⟨Nat.le_of_ble_eq_true rfl, Nat.le_of_ble_eq_true rfl⟩) hS (fun H locs hM hS => ?_)
    refine lv_if_eq (tgt := 76) hx hb dX8_isDesign_17 (by decide) (fun c2 => ?_) (fun c2 => ?_)
    · have c2 : (pB (md_in x1 (0 : Int32) (63 : Int32))) = false := bI_0.mp c2
      refine lv_iconst (v := (0 : Int32)) hx hb dX8_isDesign_76 (by decide) ?_
      exact mp_zret hx hb hr hlocks (Nat.le_of_ble_eq_true rfl) (Nat.le_of_ble_eq_true rfl) hM hS dX8_isDesign_77 (by first | rfl | exact bI_nar _) (⟨b0 (fun q => pB_not.mp c2 q.2.1), rfl⟩)
    · have c2 : (pB (md_in x1 (0 : Int32) (63 : Int32))) = true := bI_1.mp c2
      refine lv_iload_n hx hb dX8_isDesign_20 rfl (lv_at hl 1 rfl) ?_
      refine lv_iconst (v := (0 : Int32)) hx hb dX8_isDesign_21 (by decide) ?_
      refine lv_bipush (v := (63 : Int32)) hx hb dX8_isDesign_22 (by decide) ?_
      refine mp_calli (va_runS (As := [.int y0, .int (0 : Int32), .int (63 : Int32)]) (rest := []) ⟨hx, hb, hml, hown, hts⟩ (c_X8_isIn l X G A (M) y0 (0 : Int32) (63 : Int32)) (va_cwS 3 hts gX8_isDesign_X8_isIn rfl rfl rfl (by decide +kernel) ⟨Nat.le_of_ble_eq_true rfl, Nat.le_of_ble_eq_true rfl⟩) (mp_preS hC hS hM) rfl rfl hl.1 rfl (lv_room (Nat.le_of_ble_eq_true rfl)) dX8_isDesign_24 ⟨Nat.le_of_ble_eq_true rfl, Nat.le_of_ble_eq_true rfl⟩) hS (fun H locs hM hS => ?_)
      refine lv_if_eq (tgt := 76) hx hb dX8_isDesign_27 (by decide) (fun c3 => ?_) (fun c3 => ?_)
      · have c3 : (pB (md_in y0 (0 : Int32) (63 : Int32))) = false := bI_0.mp c3
        refine lv_iconst (v := (0 : Int32)) hx hb dX8_isDesign_76 (by decide) ?_
        exact mp_zret hx hb hr hlocks (Nat.le_of_ble_eq_true rfl) (Nat.le_of_ble_eq_true rfl) hM hS dX8_isDesign_77 (by first | rfl | exact bI_nar _) (⟨b0 (fun q => pB_not.mp c3 q.2.2.1), rfl⟩)
      · have c3 : (pB (md_in y0 (0 : Int32) (63 : Int32))) = true := bI_1.mp c3
        refine lv_iload_n hx hb dX8_isDesign_30 rfl (lv_at hl 3 rfl) ?_
        refine lv_iconst (v := (0 : Int32)) hx hb dX8_isDesign_31 (by decide) ?_
        refine lv_bipush (v := (63 : Int32)) hx hb dX8_isDesign_32 (by decide) ?_
        refine mp_calli (va_runS (As := [.int y1, .int (0 : Int32), .int (63 : Int32)]) (rest := []) ⟨hx, hb, hml, hown, hts⟩ (c_X8_isIn l X G A (M) y1 (0 : Int32) (63 : Int32)) (va_cwS 3 hts gX8_isDesign_X8_isIn rfl rfl rfl (by decide +kernel) ⟨Nat.le_of_ble_eq_true rfl, Nat.le_of_ble_eq_true rfl⟩) (mp_preS hC hS hM) rfl rfl hl.1 rfl (lv_room (Nat.le_of_ble_eq_true rfl)) dX8_isDesign_34 ⟨Nat.le_of_ble_eq_true rfl, Nat.le_of_ble_eq_true rfl⟩) hS (fun H locs hM hS => ?_)
        refine lv_if_eq (tgt := 76) hx hb dX8_isDesign_37 (by decide) (fun c4 => ?_) (fun c4 => ?_)
        · have c4 : (pB (md_in y1 (0 : Int32) (63 : Int32))) = false := bI_0.mp c4
          refine lv_iconst (v := (0 : Int32)) hx hb dX8_isDesign_76 (by decide) ?_
          exact mp_zret hx hb hr hlocks (Nat.le_of_ble_eq_true rfl) (Nat.le_of_ble_eq_true rfl) hM hS dX8_isDesign_77 (by first | rfl | exact bI_nar _) (⟨b0 (fun q => pB_not.mp c4 q.2.2.2.1), rfl⟩)
        · have c4 : (pB (md_in y1 (0 : Int32) (63 : Int32))) = true := bI_1.mp c4
          refine lv_iload_n hx hb dX8_isDesign_40 rfl (lv_at hl 0 rfl) ?_
          refine lv_iload_n hx hb dX8_isDesign_41 rfl (lv_at hl 2 rfl) ?_
          refine lv_icmp_ge (tgt := 76) hx hb dX8_isDesign_42 (by decide) (fun c5 => ?_) (fun c5 => ?_)
          · have c5 := c5
            refine lv_iconst (v := (0 : Int32)) hx hb dX8_isDesign_76 (by decide) ?_
            exact mp_zret hx hb hr hlocks (Nat.le_of_ble_eq_true rfl) (Nat.le_of_ble_eq_true rfl) hM hS dX8_isDesign_77 (by first | rfl | exact bI_nar _) (⟨b0 (fun q => absurd q.2.2.2.2.1 (i_nlt.mpr c5)), rfl⟩)
          · have c5 := c5
            refine lv_iload_n hx hb dX8_isDesign_45 rfl (lv_at hl 1 rfl) ?_
            refine lv_iload_n hx hb dX8_isDesign_46 rfl (lv_at hl 3 rfl) ?_
            refine lv_icmp_ge (tgt := 76) hx hb dX8_isDesign_47 (by decide) (fun c6 => ?_) (fun c6 => ?_)
            · have c6 := c6
              refine lv_iconst (v := (0 : Int32)) hx hb dX8_isDesign_76 (by decide) ?_
              exact mp_zret hx hb hr hlocks (Nat.le_of_ble_eq_true rfl) (Nat.le_of_ble_eq_true rfl) hM hS dX8_isDesign_77 (by first | rfl | exact bI_nar _) (⟨b0 (fun q => absurd q.2.2.2.2.2.1 (i_nlt.mpr c6)), rfl⟩)
            · have c6 := c6
              refine lv_iload hx hb dX8_isDesign_50 (lv_at hl 4 rfl) ?_
              refine lv_iconst (v := (1 : Int32)) hx hb dX8_isDesign_52 (by decide) ?_
              refine lv_bipush (v := (40 : Int32)) hx hb dX8_isDesign_53 (by decide) ?_
              refine mp_calli (va_runS (As := [.int ht, .int (1 : Int32), .int (40 : Int32)]) (rest := []) ⟨hx, hb, hml, hown, hts⟩ (c_X8_isIn l X G A (M) ht (1 : Int32) (40 : Int32)) (va_cwS 3 hts gX8_isDesign_X8_isIn rfl rfl rfl (by decide +kernel) ⟨Nat.le_of_ble_eq_true rfl, Nat.le_of_ble_eq_true rfl⟩) (mp_preS hC hS hM) rfl rfl hl.1 rfl (lv_room (Nat.le_of_ble_eq_true rfl)) dX8_isDesign_55 ⟨Nat.le_of_ble_eq_true rfl, Nat.le_of_ble_eq_true rfl⟩) hS (fun H locs hM hS => ?_)
              refine lv_if_eq (tgt := 76) hx hb dX8_isDesign_58 (by decide) (fun c7 => ?_) (fun c7 => ?_)
              · have c7 : (pB (md_in ht (1 : Int32) (40 : Int32))) = false := bI_0.mp c7
                refine lv_iconst (v := (0 : Int32)) hx hb dX8_isDesign_76 (by decide) ?_
                exact mp_zret hx hb hr hlocks (Nat.le_of_ble_eq_true rfl) (Nat.le_of_ble_eq_true rfl) hM hS dX8_isDesign_77 (by first | rfl | exact bI_nar _) (⟨b0 (fun q => pB_not.mp c7 q.2.2.2.2.2.2.1), rfl⟩)
              · have c7 : (pB (md_in ht (1 : Int32) (40 : Int32))) = true := bI_1.mp c7
                refine lv_iload hx hb dX8_isDesign_61 (lv_at hl 5 rfl) ?_
                refine lv_iconst (v := (0 : Int32)) hx hb dX8_isDesign_63 (by decide) ?_
                refine lv_bipush (v := (7 : Int32)) hx hb dX8_isDesign_64 (by decide) ?_
                refine mp_calli (va_runS (As := [.int us, .int (0 : Int32), .int (7 : Int32)]) (rest := []) ⟨hx, hb, hml, hown, hts⟩ (c_X8_isIn l X G A (M) us (0 : Int32) (7 : Int32)) (va_cwS 3 hts gX8_isDesign_X8_isIn rfl rfl rfl (by decide +kernel) ⟨Nat.le_of_ble_eq_true rfl, Nat.le_of_ble_eq_true rfl⟩) (mp_preS hC hS hM) rfl rfl hl.1 rfl (lv_room (Nat.le_of_ble_eq_true rfl)) dX8_isDesign_66 ⟨Nat.le_of_ble_eq_true rfl, Nat.le_of_ble_eq_true rfl⟩) hS (fun H locs hM hS => ?_)
                refine lv_if_eq (tgt := 76) hx hb dX8_isDesign_69 (by decide) (fun c8 => ?_) (fun c8 => ?_)
                · have c8 : (pB (md_in us (0 : Int32) (7 : Int32))) = false := bI_0.mp c8
                  refine lv_iconst (v := (0 : Int32)) hx hb dX8_isDesign_76 (by decide) ?_
                  exact mp_zret hx hb hr hlocks (Nat.le_of_ble_eq_true rfl) (Nat.le_of_ble_eq_true rfl) hM hS dX8_isDesign_77 (by first | rfl | exact bI_nar _) (⟨b0 (fun q => pB_not.mp c8 q.2.2.2.2.2.2.2), rfl⟩)
                · have c8 : (pB (md_in us (0 : Int32) (7 : Int32))) = true := bI_1.mp c8
                  refine lv_iconst (v := (1 : Int32)) hx hb dX8_isDesign_72 (by decide) ?_
                  refine lv_goto (tgt := 77) hx hb dX8_isDesign_73 (by decide) ?_
                  exact mp_zret hx hb hr hlocks (Nat.le_of_ble_eq_true rfl) (Nat.le_of_ble_eq_true rfl) hM hS dX8_isDesign_77 (by first | rfl | exact bI_nar _) (⟨b1 ⟨pB_iff.mp c1, pB_iff.mp c2, pB_iff.mp c3, pB_iff.mp c4, i_nle.mp c5, i_nle.mp c6, pB_iff.mp c7, pB_iff.mp c8⟩, rfl⟩)
abbrev rmX8_stands : Room := { frames := 2, cells := 0, slots := 0, locals := 43 }
set_option maxHeartbeats 4000000 in
set_option maxRecDepth 100000 in
theorem c_X8_stands (l : Launch) (X : mp_X) (G : mp_G) (A : Nat → Prop) (B : mp_M) (h : Nat) (ad : Nat → Nat) (n : Nat → Int32) (f : Nat → Nat → Int32) (ap : Nat) (hap : n 4 = nI ap) (hap9 : ap ≤ 40) (q d k : Int32) : mp_Met l X G A yX8_stands wsX8_stands rmX8_stands ([.ref h, .int q, .int d, .int k] : List Value) (md_M G B h ad n f) (fun v M1 => v = some (.int (bI (pB (md_stands f ap q d k)))) ∧ M1 = md_M G B h ad n f) 0 0 := by
  refine mp_ofW (cc := cX8_stands) (maxL := 4) (ret := (some .boolean)) (by decide) rfl (Nat.le_of_ble_eq_true rfl) ?_
  intro p e s m below meth c ls hx hb hr hts hown hlocks hnm hml hC hM hS hl
  have hl : lv_has ls 4 [(0, .ref h), (1, .int q), (2, .int d), (3, .int k)] := hl
  have hown : s.vm.findClass RX8 = some m.cls := hown
  refine lv_aload_n hx hb dX8_stands_0 rfl (lv_at hl 0 rfl) ?_
  refine lv_iload_n hx hb dX8_stands_1 rfl (lv_at hl 1 rfl) ?_
  refine mp_calli (va_runV (As := [.int q]) (rest := []) ⟨hx, hb, hml, hown, hts⟩ (c_X8_isApplication l X G A B h ad n f q) (cwV 1 hts gX8_stands_X8_isApplication rfl rfl rfl (by decide +kernel) ⟨Nat.le_of_ble_eq_true rfl, Nat.le_of_ble_eq_true rfl⟩) (mp_preV hC hS hM (md_recv hC hM)) rfl rfl hl.1 rfl (lv_room (Nat.le_of_ble_eq_true rfl)) dX8_stands_2 ⟨Nat.le_of_ble_eq_true rfl, Nat.le_of_ble_eq_true rfl⟩) hS (fun H locs hM hS => ?_)
  refine lv_if_eq (tgt := 36) hx hb dX8_stands_5 (by decide) (fun c1 => ?_) (fun c1 => ?_)
  · have c1 : (pB (md_in q 0 (n 4 - 1))) = false := bI_0.mp c1
    refine lv_iconst (v := (0 : Int32)) hx hb dX8_stands_36 (by decide) ?_
    exact mp_zret hx hb hr hlocks (Nat.le_of_ble_eq_true rfl) (Nat.le_of_ble_eq_true rfl) hM hS dX8_stands_37 (by first | rfl | exact bI_nar _) (⟨b0 (fun q => pB_not.mp c1 (by rw [hap]; exact q.1)), rfl⟩)
  · have c1 : (pB (md_in q 0 (n 4 - 1))) = true := bI_1.mp c1
    refine lv_iload_n hx hb dX8_stands_8 rfl (lv_at hl 2 rfl) ?_
    refine mp_calli (va_runS (As := [.int d]) (rest := []) ⟨hx, hb, hml, hown, hts⟩ (c_X8_isDay l X G A (md_M G B h ad n f) d) (va_cwS 1 hts gX8_stands_X8_isDay rfl rfl rfl (by decide +kernel) ⟨Nat.le_of_ble_eq_true rfl, Nat.le_of_ble_eq_true rfl⟩) (mp_preS hC hS hM) rfl rfl hl.1 rfl (lv_room (Nat.le_of_ble_eq_true rfl)) dX8_stands_9 ⟨Nat.le_of_ble_eq_true rfl, Nat.le_of_ble_eq_true rfl⟩) hS (fun H locs hM hS => ?_)
    refine lv_if_eq (tgt := 36) hx hb dX8_stands_12 (by decide) (fun c2 => ?_) (fun c2 => ?_)
    · have c2 : (pB (md_in d 0 9999)) = false := bI_0.mp c2
      refine lv_iconst (v := (0 : Int32)) hx hb dX8_stands_36 (by decide) ?_
      exact mp_zret hx hb hr hlocks (Nat.le_of_ble_eq_true rfl) (Nat.le_of_ble_eq_true rfl) hM hS dX8_stands_37 (by first | rfl | exact bI_nar _) (⟨b0 (fun q => pB_not.mp c2 q.2.1), rfl⟩)
    · have c2 : (pB (md_in d 0 9999)) = true := bI_1.mp c2
      refine lv_iload_n hx hb dX8_stands_15 rfl (lv_at hl 3 rfl) ?_
      refine mp_calli (va_runS (As := [.int k]) (rest := []) ⟨hx, hb, hml, hown, hts⟩ (c_X8_isDay l X G A (md_M G B h ad n f) k) (va_cwS 1 hts gX8_stands_X8_isDay rfl rfl rfl (by decide +kernel) ⟨Nat.le_of_ble_eq_true rfl, Nat.le_of_ble_eq_true rfl⟩) (mp_preS hC hS hM) rfl rfl hl.1 rfl (lv_room (Nat.le_of_ble_eq_true rfl)) dX8_stands_16 ⟨Nat.le_of_ble_eq_true rfl, Nat.le_of_ble_eq_true rfl⟩) hS (fun H locs hM hS => ?_)
      refine lv_if_eq (tgt := 36) hx hb dX8_stands_19 (by decide) (fun c3 => ?_) (fun c3 => ?_)
      · have c3 : (pB (md_in k 0 9999)) = false := bI_0.mp c3
        refine lv_iconst (v := (0 : Int32)) hx hb dX8_stands_36 (by decide) ?_
        exact mp_zret hx hb hr hlocks (Nat.le_of_ble_eq_true rfl) (Nat.le_of_ble_eq_true rfl) hM hS dX8_stands_37 (by first | rfl | exact bI_nar _) (⟨b0 (fun q => pB_not.mp c3 q.2.2.1), rfl⟩)
      · have c3 : (pB (md_in k 0 9999)) = true := bI_1.mp c3
        obtain ⟨a, ha, e_a⟩ := md_nat (k := ap) (by omega) (by have z := pB_iff.mp c1; rw [hap] at z; exact z)
        subst e_a
        have ecl : (nI a).toNatClampNeg = a := nI_clamp (by omega)
        refine lv_aload_n hx hb dX8_stands_22 rfl (lv_at hl 0 rfl) ?_
        refine lv_iload_n hx hb dX8_stands_23 rfl (lv_at hl 1 rfl) ?_
        refine lv_iload_n hx hb dX8_stands_24 rfl (lv_at hl 2 rfl) ?_
        refine lv_iload_n hx hb dX8_stands_25 rfl (lv_at hl 3 rfl) ?_
        refine mp_calli (va_runV (As := [.int (nI a), .int d, .int k]) (rest := []) ⟨hx, hb, hml, hown, hts⟩ (c_X8_stood l X G A B h ad n f a (by omega) d k) (cwV 3 hts gX8_stands_X8_stood rfl rfl rfl (by decide +kernel) ⟨Nat.le_of_ble_eq_true rfl, Nat.le_of_ble_eq_true rfl⟩) (mp_preV hC hS hM (md_recv hC hM)) rfl rfl hl.1 rfl (lv_room (Nat.le_of_ble_eq_true rfl)) dX8_stands_26 ⟨Nat.le_of_ble_eq_true rfl, Nat.le_of_ble_eq_true rfl⟩) hS (fun H locs hM hS => ?_)
        refine lv_if_eq (tgt := 36) hx hb dX8_stands_29 (by decide) (fun c4 => ?_) (fun c4 => ?_)
        · have c4 : (pB (md_stood f a d k)) = false := bI_0.mp c4
          refine lv_iconst (v := (0 : Int32)) hx hb dX8_stands_36 (by decide) ?_
          exact mp_zret hx hb hr hlocks (Nat.le_of_ble_eq_true rfl) (Nat.le_of_ble_eq_true rfl) hM hS dX8_stands_37 (by first | rfl | exact bI_nar _) (⟨b0 (fun q => pB_not.mp c4 (by have z := q.2.2.2; rw [ecl] at z; exact z)), rfl⟩)
        · have c4 : (pB (md_stood f a d k)) = true := bI_1.mp c4
          refine lv_iconst (v := (1 : Int32)) hx hb dX8_stands_32 (by decide) ?_
          refine lv_goto (tgt := 37) hx hb dX8_stands_33 (by decide) ?_
          exact mp_zret hx hb hr hlocks (Nat.le_of_ble_eq_true rfl) (Nat.le_of_ble_eq_true rfl) hM hS dX8_stands_37 (by first | rfl | exact bI_nar _) (⟨b1 ⟨by rw [← hap]; exact pB_iff.mp c1, pB_iff.mp c2, pB_iff.mp c3, by rw [ecl]; exact pB_iff.mp c4⟩, rfl⟩)
abbrev rmX8_howNow : Room := { frames := 0, cells := 0, slots := 0, locals := 0 }
set_option maxHeartbeats 4000000 in
set_option maxRecDepth 100000 in
theorem c_X8_howNow (l : Launch) (X : mp_X) (G : mp_G) (A : Nat → Prop) (B : mp_M) (h : Nat) (ad : Nat → Nat) (n : Nat → Int32) (f : Nat → Nat → Int32) (a : Nat) (ha : a < 40) : mp_Met l X G A yX8_howNow wsX8_howNow rmX8_howNow ([.ref h, .int (nI a)] : List Value) (md_M G B h ad n f) (fun v M1 => v = some (.int (md_how n f a)) ∧ M1 = md_M G B h ad n f) 0 0 := by
  refine mp_ofW (cc := cX8_howNow) (maxL := 2) (ret := (some .int)) (by decide) rfl (Nat.le_of_ble_eq_true rfl) ?_
  intro p e s m below meth c ls hx hb hr hts hown hlocks hnm hml hC hM hS hl
  have hl : lv_has ls 2 [(0, .ref h), (1, .int (nI a))] := hl
  have hown : s.vm.findClass RX8 = some m.cls := hown
  have fl_72 := hts (.fieldLink RX8 72 "PlanningBenchModel" "how" "[I") (List.mem_of_getElem? (i := 1) rfl)
  have hin_wsX80 : ∀ w ∈ wsX80, w ∈ wsX8_howNow := fun _ h => List.mem_cons_of_mem _ (List.mem_append_right _ h)
  have fl_125 := hts (.fieldLink RX8 125 "PlanningBenchModel" "today" "I") (List.mem_of_getElem? (i := 2) rfl)
  have fl_84 := hts (.fieldLink RX8 84 "PlanningBenchModel" "begun" "[I") (List.mem_of_getElem? (i := 4) rfl)
  have fl_81 := hts (.fieldLink RX8 81 "PlanningBenchModel" "decided" "[I") (List.mem_of_getElem? (i := 3) rfl)
  refine lv_aload_n hx hb dX8_howNow_0 rfl (lv_at hl 0 rfl) ?_
  refine md_getr hx hb hts hin_wsX80 hown hC hM 31 (by decide) rfl fl_72 dX8_howNow_1 ?_
  refine lv_iload_n hx hb dX8_howNow_4 rfl (lv_at hl 1 rfl) ?_
  refine md_iald hx hb hC hM 31 rfl (j := a) (by omega) (by decide) dX8_howNow_5 ?_
  refine lv_iconst (v := (1 : Int32)) hx hb dX8_howNow_6 (by decide) ?_
  refine lv_icmp_ne (tgt := 27) hx hb dX8_howNow_7 (by decide) (fun c1 => ?_) (fun c1 => ?_)
  · have c1 := c1
    refine lv_aload_n hx hb dX8_howNow_27 rfl (lv_at hl 0 rfl) ?_
    refine md_getr hx hb hts hin_wsX80 hown hC hM 31 (by decide) rfl fl_72 dX8_howNow_28 ?_
    refine lv_iload_n hx hb dX8_howNow_31 rfl (lv_at hl 1 rfl) ?_
    refine md_iald hx hb hC hM 31 rfl (j := a) (by omega) (by decide) dX8_howNow_32 ?_
    refine lv_iconst (v := (3 : Int32)) hx hb dX8_howNow_33 (by decide) ?_
    refine lv_icmp_ne (tgt := 56) hx hb dX8_howNow_34 (by decide) (fun c3 => ?_) (fun c3 => ?_)
    · have c3 := c3
      refine lv_aload_n hx hb dX8_howNow_56 rfl (lv_at hl 0 rfl) ?_
      refine md_getr hx hb hts hin_wsX80 hown hC hM 31 (by decide) rfl fl_72 dX8_howNow_57 ?_
      refine lv_iload_n hx hb dX8_howNow_60 rfl (lv_at hl 1 rfl) ?_
      refine md_iald hx hb hC hM 31 rfl (j := a) (by omega) (by decide) dX8_howNow_61 ?_
      exact mp_iret hx hb hr hlocks (Nat.le_of_ble_eq_true rfl) (Nat.le_of_ble_eq_true rfl) hM hS dX8_howNow_62 (⟨by rw [md_how, pB_f (fun q => q.elim (fun z => c1 z.1) (fun z => c3 z.1))]; rfl, rfl⟩)
    · have c3 := c3
      refine lv_aload_n hx hb dX8_howNow_37 rfl (lv_at hl 0 rfl) ?_
      refine md_geti hx hb hts hin_wsX80 hown hC hM 0 (by decide) rfl fl_125 dX8_howNow_38 ?_
      refine lv_aload_n hx hb dX8_howNow_41 rfl (lv_at hl 0 rfl) ?_
      refine md_getr hx hb hts hin_wsX80 hown hC hM 35 (by decide) rfl fl_84 dX8_howNow_42 ?_
      refine lv_iload_n hx hb dX8_howNow_45 rfl (lv_at hl 1 rfl) ?_
      refine md_iald hx hb hC hM 35 rfl (j := a) (by omega) (by decide) dX8_howNow_46 ?_
      refine lv_sipush (v := (300 : Int32)) hx hb dX8_howNow_47 (by decide) ?_
      refine lv_iadd hx hb dX8_howNow_50 ?_
      refine lv_icmp_le (tgt := 56) hx hb dX8_howNow_51 (by decide) (fun c4 => ?_) (fun c4 => ?_)
      · have c4 := c4
        refine lv_aload_n hx hb dX8_howNow_56 rfl (lv_at hl 0 rfl) ?_
        refine md_getr hx hb hts hin_wsX80 hown hC hM 31 (by decide) rfl fl_72 dX8_howNow_57 ?_
        refine lv_iload_n hx hb dX8_howNow_60 rfl (lv_at hl 1 rfl) ?_
        refine md_iald hx hb hC hM 31 rfl (j := a) (by omega) (by decide) dX8_howNow_61 ?_
        exact mp_iret hx hb hr hlocks (Nat.le_of_ble_eq_true rfl) (Nat.le_of_ble_eq_true rfl) hM hS dX8_howNow_62 (⟨by rw [md_how, pB_f (fun q => q.elim (fun z => c1 z.1) (fun z => absurd c4 (i_nle.mpr z.2)))]; rfl, rfl⟩)
      · have c4 := c4
        refine lv_iconst (v := (5 : Int32)) hx hb dX8_howNow_54 (by decide) ?_
        exact mp_iret hx hb hr hlocks (Nat.le_of_ble_eq_true rfl) (Nat.le_of_ble_eq_true rfl) hM hS dX8_howNow_55 (⟨by rw [md_how, pB_t (Or.inr ⟨c3, i_nle.mp c4⟩)]; rfl, rfl⟩)
  · have c1 := c1
    refine lv_aload_n hx hb dX8_howNow_10 rfl (lv_at hl 0 rfl) ?_
    refine md_geti hx hb hts hin_wsX80 hown hC hM 0 (by decide) rfl fl_125 dX8_howNow_11 ?_
    refine lv_aload_n hx hb dX8_howNow_14 rfl (lv_at hl 0 rfl) ?_
    refine md_getr hx hb hts hin_wsX80 hown hC hM 34 (by decide) rfl fl_81 dX8_howNow_15 ?_
    refine lv_iload_n hx hb dX8_howNow_18 rfl (lv_at hl 1 rfl) ?_
    refine md_iald hx hb hC hM 34 rfl (j := a) (by omega) (by decide) dX8_howNow_19 ?_
    refine lv_sipush (v := (400 : Int32)) hx hb dX8_howNow_20 (by decide) ?_
    refine lv_iadd hx hb dX8_howNow_23 ?_
    refine lv_icmp_gt (tgt := 54) hx hb dX8_howNow_24 (by decide) (fun c2 => ?_) (fun c2 => ?_)
    · have c2 := c2
      refine lv_iconst (v := (5 : Int32)) hx hb dX8_howNow_54 (by decide) ?_
      exact mp_iret hx hb hr hlocks (Nat.le_of_ble_eq_true rfl) (Nat.le_of_ble_eq_true rfl) hM hS dX8_howNow_55 (⟨by rw [md_how, pB_t (Or.inl ⟨c1, c2⟩)]; rfl, rfl⟩)
    · have c2 := c2
      refine lv_aload_n hx hb dX8_howNow_27 rfl (lv_at hl 0 rfl) ?_
      refine md_getr hx hb hts hin_wsX80 hown hC hM 31 (by decide) rfl fl_72 dX8_howNow_28 ?_
      refine lv_iload_n hx hb dX8_howNow_31 rfl (lv_at hl 1 rfl) ?_
      refine md_iald hx hb hC hM 31 rfl (j := a) (by omega) (by decide) dX8_howNow_32 ?_
      refine lv_iconst (v := (3 : Int32)) hx hb dX8_howNow_33 (by decide) ?_
      refine lv_icmp_ne (tgt := 56) hx hb dX8_howNow_34 (by decide) (fun c3 => ?_) (fun c3 => ?_)
      · have c3 := c3
        refine lv_aload_n hx hb dX8_howNow_56 rfl (lv_at hl 0 rfl) ?_
        refine md_getr hx hb hts hin_wsX80 hown hC hM 31 (by decide) rfl fl_72 dX8_howNow_57 ?_
        refine lv_iload_n hx hb dX8_howNow_60 rfl (lv_at hl 1 rfl) ?_
        refine md_iald hx hb hC hM 31 rfl (j := a) (by omega) (by decide) dX8_howNow_61 ?_
        exact mp_iret hx hb hr hlocks (Nat.le_of_ble_eq_true rfl) (Nat.le_of_ble_eq_true rfl) hM hS dX8_howNow_62 (⟨by rw [md_how, pB_f (fun q => q.elim (fun z => c2 z.2) (fun z => c3 z.1))]; rfl, rfl⟩)
      · have c3 := c3
        refine lv_aload_n hx hb dX8_howNow_37 rfl (lv_at hl 0 rfl) ?_
        refine md_geti hx hb hts hin_wsX80 hown hC hM 0 (by decide) rfl fl_125 dX8_howNow_38 ?_
        refine lv_aload_n hx hb dX8_howNow_41 rfl (lv_at hl 0 rfl) ?_
        refine md_getr hx hb hts hin_wsX80 hown hC hM 35 (by decide) rfl fl_84 dX8_howNow_42 ?_
        refine lv_iload_n hx hb dX8_howNow_45 rfl (lv_at hl 1 rfl) ?_
        refine md_iald hx hb hC hM 35 rfl (j := a) (by omega) (by decide) dX8_howNow_46 ?_
        refine lv_sipush (v := (300 : Int32)) hx hb dX8_howNow_47 (by decide) ?_
        refine lv_iadd hx hb dX8_howNow_50 ?_
        refine lv_icmp_le (tgt := 56) hx hb dX8_howNow_51 (by decide) (fun c4 => ?_) (fun c4 => ?_)
        · have c4 := c4
          refine lv_aload_n hx hb dX8_howNow_56 rfl (lv_at hl 0 rfl) ?_
          refine md_getr hx hb hts hin_wsX80 hown hC hM 31 (by decide) rfl fl_72 dX8_howNow_57 ?_
          refine lv_iload_n hx hb dX8_howNow_60 rfl (lv_at hl 1 rfl) ?_
          refine md_iald hx hb hC hM 31 rfl (j := a) (by omega) (by decide) dX8_howNow_61 ?_
          exact mp_iret hx hb hr hlocks (Nat.le_of_ble_eq_true rfl) (Nat.le_of_ble_eq_true rfl) hM hS dX8_howNow_62 (⟨by rw [md_how, pB_f (fun q => q.elim (fun z => c2 z.2) (fun z => absurd c4 (i_nle.mpr z.2)))]; rfl, rfl⟩)
        · have c4 := c4
          refine lv_iconst (v := (5 : Int32)) hx hb dX8_howNow_54 (by decide) ?_
          exact mp_iret hx hb hr hlocks (Nat.le_of_ble_eq_true rfl) (Nat.le_of_ble_eq_true rfl) hM hS dX8_howNow_55 (⟨by rw [md_how, pB_t (Or.inr ⟨c3, i_nle.mp c4⟩)]; rfl, rfl⟩)
abbrev rmX8_fault : Room := { frames := 0, cells := 0, slots := 0, locals := 0 }
set_option maxHeartbeats 4000000 in
set_option maxRecDepth 100000 in
theorem c_X8_fault (l : Launch) (X : mp_X) (G : mp_G) (A : Nat → Prop) (B : mp_M) (h : Nat) (ad : Nat → Nat) (n : Nat → Int32) (f : Nat → Nat → Int32) : mp_Met l X G A yX8_fault wsX8_fault rmX8_fault ([.ref h] : List Value) (md_M G B h ad n f) (fun v M1 => v = some (.int (n 14)) ∧ M1 = md_M G B h ad n f) 0 0 := by
  refine mp_ofW (cc := cX8_fault) (maxL := 1) (ret := (some .int)) (by decide) rfl (Nat.le_of_ble_eq_true rfl) ?_
  intro p e s m below meth c ls hx hb hr hts hown hlocks hnm hml hC hM hS hl
  have hl : lv_has ls 1 [(0, .ref h)] := hl
  have hown : s.vm.findClass RX8 = some m.cls := hown
  have fl_26 := hts (.fieldLink RX8 26 "PlanningBenchModel" "fault" "I") (List.mem_of_getElem? (i := 1) rfl)
  have hin_wsX80 : ∀ w ∈ wsX80, w ∈ wsX8_fault := fun _ h => List.mem_cons_of_mem _ (List.mem_append_right _ h)
  refine lv_aload_n hx hb dX8_fault_0 rfl (lv_at hl 0 rfl) ?_
  refine md_geti hx hb hts hin_wsX80 hown hC hM 14 (by decide) rfl fl_26 dX8_fault_1 ?_
  exact mp_iret hx hb hr hlocks (Nat.le_of_ble_eq_true rfl) (Nat.le_of_ble_eq_true rfl) hM hS dX8_fault_4 (⟨rfl, rfl⟩)
abbrev rmX8_isLetter : Room := { frames := 0, cells := 0, slots := 0, locals := 0 }
set_option maxHeartbeats 4000000 in
set_option maxRecDepth 100000 in
theorem c_X8_isLetter (l : Launch) (X : mp_X) (G : mp_G) (A : Nat → Prop) (M : mp_M) (x : Int32) : mp_Met l X G A yX8_isLetter wsX8_isLetter rmX8_isLetter ([.int x] : List Value) M (fun v M1 => v = some (.int (bI (pB (md_in x 97 122)))) ∧ M1 = M) 0 0 := by
  refine mp_ofW (cc := cX8_isLetter) (maxL := 1) (ret := (some .boolean)) (by decide) rfl (Nat.le_of_ble_eq_true rfl) ?_
  intro p e s m below meth c ls hx hb hr hts hown hlocks hnm hml hC hM hS hl
  have hl : lv_has ls 1 [(0, .int x)] := hl
  have hown : s.vm.findClass RX8 = some m.cls := hown
  refine lv_iload_n hx hb dX8_isLetter_0 rfl (lv_at hl 0 rfl) ?_
  refine lv_bipush (v := (97 : Int32)) hx hb dX8_isLetter_1 (by decide) ?_
  refine lv_icmp_lt (tgt := 16) hx hb dX8_isLetter_3 (by decide) (fun c1 => ?_) (fun c1 => ?_)
  · have c1 := c1
    refine lv_iconst (v := (0 : Int32)) hx hb dX8_isLetter_16 (by decide) ?_
    exact mp_zret hx hb hr hlocks (Nat.le_of_ble_eq_true rfl) (Nat.le_of_ble_eq_true rfl) hM hS dX8_isLetter_17 (by first | rfl | exact bI_nar _) (⟨by first | exact b1 ⟨i_nlt.mp c1, i_nlt.mp c2⟩ | exact b0 (fun q => absurd q.1 (i_nle.mpr c1)) | exact b0 (fun q => absurd q.2 (i_nle.mpr c2)), rfl⟩)
  · have c1 := c1
    refine lv_iload_n hx hb dX8_isLetter_6 rfl (lv_at hl 0 rfl) ?_
    refine lv_bipush (v := (122 : Int32)) hx hb dX8_isLetter_7 (by decide) ?_
    refine lv_icmp_gt (tgt := 16) hx hb dX8_isLetter_9 (by decide) (fun c2 => ?_) (fun c2 => ?_)
    · have c2 := c2
      refine lv_iconst (v := (0 : Int32)) hx hb dX8_isLetter_16 (by decide) ?_
      exact mp_zret hx hb hr hlocks (Nat.le_of_ble_eq_true rfl) (Nat.le_of_ble_eq_true rfl) hM hS dX8_isLetter_17 (by first | rfl | exact bI_nar _) (⟨by first | exact b1 ⟨i_nlt.mp c1, i_nlt.mp c2⟩ | exact b0 (fun q => absurd q.1 (i_nle.mpr c1)) | exact b0 (fun q => absurd q.2 (i_nle.mpr c2)), rfl⟩)
    · have c2 := c2
      refine lv_iconst (v := (1 : Int32)) hx hb dX8_isLetter_12 (by decide) ?_
      refine lv_goto (tgt := 17) hx hb dX8_isLetter_13 (by decide) ?_
      exact mp_zret hx hb hr hlocks (Nat.le_of_ble_eq_true rfl) (Nat.le_of_ble_eq_true rfl) hM hS dX8_isLetter_17 (by first | rfl | exact bI_nar _) (⟨by first | exact b1 ⟨i_nlt.mp c1, i_nlt.mp c2⟩ | exact b0 (fun q => absurd q.1 (i_nle.mpr c1)) | exact b0 (fun q => absurd q.2 (i_nle.mpr c2)), rfl⟩)
abbrev rmX8_isDigit : Room := { frames := 0, cells := 0, slots := 0, locals := 0 }
set_option maxHeartbeats 4000000 in
set_option maxRecDepth 100000 in
theorem c_X8_isDigit (l : Launch) (X : mp_X) (G : mp_G) (A : Nat → Prop) (M : mp_M) (x : Int32) : mp_Met l X G A yX8_isDigit wsX8_isDigit rmX8_isDigit ([.int x] : List Value) M (fun v M1 => v = some (.int (bI (pB (md_in x 48 57)))) ∧ M1 = M) 0 0 := by
  refine mp_ofW (cc := cX8_isDigit) (maxL := 1) (ret := (some .boolean)) (by decide) rfl (Nat.le_of_ble_eq_true rfl) ?_
  intro p e s m below meth c ls hx hb hr hts hown hlocks hnm hml hC hM hS hl
  have hl : lv_has ls 1 [(0, .int x)] := hl
  have hown : s.vm.findClass RX8 = some m.cls := hown
  refine lv_iload_n hx hb dX8_isDigit_0 rfl (lv_at hl 0 rfl) ?_
  refine lv_bipush (v := (48 : Int32)) hx hb dX8_isDigit_1 (by decide) ?_
  refine lv_icmp_lt (tgt := 16) hx hb dX8_isDigit_3 (by decide) (fun c1 => ?_) (fun c1 => ?_)
  · have c1 := c1
    refine lv_iconst (v := (0 : Int32)) hx hb dX8_isDigit_16 (by decide) ?_
    exact mp_zret hx hb hr hlocks (Nat.le_of_ble_eq_true rfl) (Nat.le_of_ble_eq_true rfl) hM hS dX8_isDigit_17 (by first | rfl | exact bI_nar _) (⟨by first | exact b1 ⟨i_nlt.mp c1, i_nlt.mp c2⟩ | exact b0 (fun q => absurd q.1 (i_nle.mpr c1)) | exact b0 (fun q => absurd q.2 (i_nle.mpr c2)), rfl⟩)
  · have c1 := c1
    refine lv_iload_n hx hb dX8_isDigit_6 rfl (lv_at hl 0 rfl) ?_
    refine lv_bipush (v := (57 : Int32)) hx hb dX8_isDigit_7 (by decide) ?_
    refine lv_icmp_gt (tgt := 16) hx hb dX8_isDigit_9 (by decide) (fun c2 => ?_) (fun c2 => ?_)
    · have c2 := c2
      refine lv_iconst (v := (0 : Int32)) hx hb dX8_isDigit_16 (by decide) ?_
      exact mp_zret hx hb hr hlocks (Nat.le_of_ble_eq_true rfl) (Nat.le_of_ble_eq_true rfl) hM hS dX8_isDigit_17 (by first | rfl | exact bI_nar _) (⟨by first | exact b1 ⟨i_nlt.mp c1, i_nlt.mp c2⟩ | exact b0 (fun q => absurd q.1 (i_nle.mpr c1)) | exact b0 (fun q => absurd q.2 (i_nle.mpr c2)), rfl⟩)
    · have c2 := c2
      refine lv_iconst (v := (1 : Int32)) hx hb dX8_isDigit_12 (by decide) ?_
      refine lv_goto (tgt := 17) hx hb dX8_isDigit_13 (by decide) ?_
      exact mp_zret hx hb hr hlocks (Nat.le_of_ble_eq_true rfl) (Nat.le_of_ble_eq_true rfl) hM hS dX8_isDigit_17 (by first | rfl | exact bI_nar _) (⟨by first | exact b1 ⟨i_nlt.mp c1, i_nlt.mp c2⟩ | exact b0 (fun q => absurd q.1 (i_nle.mpr c1)) | exact b0 (fun q => absurd q.2 (i_nle.mpr c2)), rfl⟩)
abbrev rmX8_plan : Room := { frames := 2, cells := 0, slots := 0, locals := 42 }
set_option maxHeartbeats 4000000 in
set_option maxRecDepth 100000 in
theorem c_X8_plan (l : Launch) (X : mp_X) (G : mp_G) (A : Nat → Prop) (B : mp_M) (h : Nat) (ad : Nat → Nat) (n : Nat → Int32) (f : Nat → Nat → Int32) (pn : Nat) (hpn : n 3 = nI pn) (hpn9 : pn ≤ 20) (d k : Int32) : mp_Met l X G A yX8_plan wsX8_plan rmX8_plan ([.ref h, .int d, .int k] : List Value) (md_M G B h ad n f) (fun v M1 => v = some (.int (md_plan f pn d k)) ∧ M1 = md_M G B h ad n f) 0 0 := by
  refine mp_ofW (cc := cX8_plan) (maxL := 5) (ret := (some .int)) (by decide) rfl (Nat.le_of_ble_eq_true rfl) ?_
  intro p e s m below meth c ls hx hb hr hts hown hlocks hnm hml hC hM hS hl
  have hl : lv_has ls 5 [(0, .ref h), (1, .int d), (2, .int k)] := hl
  have hown : s.vm.findClass RX8 = some m.cls := hown
  have fl_219 := hts (.fieldLink RX8 219 "PlanningBenchModel" "plans" "I") (List.mem_of_getElem? (i := 1) rfl)
  have hin_wsX80 : ∀ w ∈ wsX80, w ∈ wsX8_plan := fun _ h => List.mem_cons_of_mem _ (List.mem_append_right _ h)
  have fl_30 := hts (.fieldLink RX8 30 "PlanningBenchModel" "planFrom" "[I") (List.mem_of_getElem? (i := 2) rfl)
  have fl_33 := hts (.fieldLink RX8 33 "PlanningBenchModel" "planKnown" "[I") (List.mem_of_getElem? (i := 3) rfl)
  refine lv_iconst (v := (-1 : Int32)) hx hb dX8_plan_0 (by decide) ?_
  refine lv_istore_n (lv' := [(3, .int (-1 : Int32)), (0, .ref h), (1, .int d), (2, .int k)]) hx hb dX8_plan_1 rfl hl (by decide) rfl (fun ls hl => ?_)
  refine lv_iload_n hx hb dX8_plan_2 rfl (lv_at hl 2 rfl) ?_
  refine mp_calli (va_runS (As := [.int d]) (rest := []) ⟨hx, hb, hml, hown, hts⟩ (c_X8_isDay l X G A (md_M G B h ad n f) d) (va_cwS 1 hts gX8_plan_X8_isDay rfl rfl rfl (by decide +kernel) ⟨Nat.le_of_ble_eq_true rfl, Nat.le_of_ble_eq_true rfl⟩) (mp_preS hC hS hM) rfl rfl hl.1 rfl (lv_room (Nat.le_of_ble_eq_true rfl)) dX8_plan_3 ⟨Nat.le_of_ble_eq_true rfl, Nat.le_of_ble_eq_true rfl⟩) hS (fun H locs hM hS => ?_)
  refine lv_if_eq (tgt := 16) hx hb dX8_plan_6 (by decide) (fun cd => ?_) (fun cd => ?_)
  · have cd : (pB (md_in d 0 9999)) = false := bI_0.mp cd
    refine lv_iconst (v := (-1 : Int32)) hx hb dX8_plan_16 (by decide) ?_
    exact mp_iret hx hb hr hlocks (Nat.le_of_ble_eq_true rfl) (Nat.le_of_ble_eq_true rfl) hM hS dX8_plan_17 (⟨by rw [md_plan, pB_f (fun q => by first | exact pB_not.mp cd q.1 | exact pB_not.mp ck q.2)]; rfl, rfl⟩)
  · have cd : (pB (md_in d 0 9999)) = true := bI_1.mp cd
    refine lv_iload_n hx hb dX8_plan_9 rfl (lv_at hl 3 rfl) ?_
    refine mp_calli (va_runS (As := [.int k]) (rest := []) ⟨hx, hb, hml, hown, hts⟩ (c_X8_isDay l X G A (md_M G B h ad n f) k) (va_cwS 1 hts gX8_plan_X8_isDay rfl rfl rfl (by decide +kernel) ⟨Nat.le_of_ble_eq_true rfl, Nat.le_of_ble_eq_true rfl⟩) (mp_preS hC hS hM) rfl rfl hl.1 rfl (lv_room (Nat.le_of_ble_eq_true rfl)) dX8_plan_10 ⟨Nat.le_of_ble_eq_true rfl, Nat.le_of_ble_eq_true rfl⟩) hS (fun H locs hM hS => ?_)
    refine lv_if_ne (tgt := 18) hx hb dX8_plan_13 (by decide) (fun ck => ?_) (fun ck => ?_)
    · have ck : (pB (md_in k 0 9999)) = true := bI_1.mp ck
      refine lv_iconst (v := (0 : Int32)) hx hb dX8_plan_18 (by decide) ?_
      refine lv_istore (lv' := [(4, .int (0 : Int32)), (3, .int (-1 : Int32)), (0, .ref h), (1, .int d), (2, .int k)]) hx hb dX8_plan_19 hl (by decide) rfl (fun ls hl => ?_)
      have LP21 : ∀ (kk : Nat) (i : Nat) (ls : Array Slot) (H : Heap) (locs : List Loc), pn - i < kk → i ≤ pn → mp_P G.1 A (md_M G B h ad n f) H → va_S A s.heap H locs → lv_has ls 5 [(0, .ref h), (1, .int d), (2, .int k), (3, .int (oI (bst (md_planP f d k) (f 15) i))), (4, .int (nI i))] → W p l e rmX8_plan s m ([.ref h, .int d, .int k] : List Value).toArray below meth c H locs 0 0 (MQ below (mp_Q G.1 A (fun v M1 => v = some (.int (md_plan f pn d k)) ∧ M1 = md_M G B h ad n f)) ([.ref h, .int d, .int k] : List Value).toArray s 0 0 A) (F0 m 21 ls []) := by
        intro kk
        induction kk with
        | zero => intro i ls H locs hk; exact absurd hk (Nat.not_lt_zero _)
        | succ kk ih =>
          intro i ls H locs hk hi hM hS hl
          refine lv_iload hx hb dX8_plan_21 (lv_at hl 4 rfl) ?_
          refine lv_aload_n hx hb dX8_plan_23 rfl (lv_at hl 0 rfl) ?_
          refine md_geti hx hb hts hin_wsX80 hown hC hM 3 (by decide) rfl fl_219 dX8_plan_24 ?_
          refine mp_top (nI pn) hpn ?_
          refine lv_icmp_ge (tgt := 82) hx hb dX8_plan_27 (by decide) (fun hlt => ?_) (fun hlt => ?_)
          · have hlt := nn_le (a := pn) (b := i) (by omega) (by omega) hlt
            refine lv_iload_n hx hb dX8_plan_82 rfl (lv_at hl 3 rfl) ?_
            exact mp_iret hx hb hr hlocks (Nat.le_of_ble_eq_true rfl) (Nat.le_of_ble_eq_true rfl) hM hS dX8_plan_83 (⟨by rw [md_plan, pB_t ⟨pB_iff.mp cd, pB_iff.mp ck⟩, show i = pn by omega]; rfl, rfl⟩)
          · have hlt := nn_nle (a := pn) (b := i) (by omega) (by omega) hlt
            refine lv_aload_n hx hb dX8_plan_30 rfl (lv_at hl 0 rfl) ?_
            refine md_getr hx hb hts hin_wsX80 hown hC hM 15 (by decide) rfl fl_30 dX8_plan_31 ?_
            refine lv_iload hx hb dX8_plan_34 (lv_at hl 4 rfl) ?_
            refine md_iald hx hb hC hM 15 rfl (j := i) (by omega) (by decide) dX8_plan_36 ?_
            refine lv_iload_n hx hb dX8_plan_37 rfl (lv_at hl 1 rfl) ?_
            refine lv_icmp_gt (tgt := 76) hx hb dX8_plan_38 (by decide) (fun c1 => ?_) (fun c1 => ?_)
            · have c1 := c1
              refine lv_iinc (v := nI (i + 1)) (lv' := [(4, .int (nI (i + 1))), (0, .ref h), (1, .int d), (2, .int k), (3, .int (oI (bst (md_planP f d k) (f 15) i)))]) hx hb dX8_plan_76 hl (k := 4) rfl (nI_1 i) (by decide) rfl (fun ls hl => ?_)
              refine lv_goto (tgt := 21) hx hb dX8_plan_79 (by decide) ?_
              exact ih (i + 1) ls _ _ (by omega) (by omega) hM hS (by have e : oI (bst (md_planP f d k) (f 15) (i + 1)) = oI (bst (md_planP f d k) (f 15) i) := (congrArg oI (bst_no (fun q => absurd q.1.1 (i_nle.mpr c1)))); rw [e]; exact lv_sub hl [1, 2, 3, 4, 0] rfl)
            · have c1 := c1
              refine lv_aload_n hx hb dX8_plan_41 rfl (lv_at hl 0 rfl) ?_
              refine md_getr hx hb hts hin_wsX80 hown hC hM 16 (by decide) rfl fl_33 dX8_plan_42 ?_
              refine lv_iload hx hb dX8_plan_45 (lv_at hl 4 rfl) ?_
              refine md_iald hx hb hC hM 16 rfl (j := i) (by omega) (by decide) dX8_plan_47 ?_
              refine lv_iload_n hx hb dX8_plan_48 rfl (lv_at hl 2 rfl) ?_
              refine lv_icmp_gt (tgt := 76) hx hb dX8_plan_49 (by decide) (fun c2 => ?_) (fun c2 => ?_)
              · have c2 := c2
                refine lv_iinc (v := nI (i + 1)) (lv' := [(4, .int (nI (i + 1))), (0, .ref h), (1, .int d), (2, .int k), (3, .int (oI (bst (md_planP f d k) (f 15) i)))]) hx hb dX8_plan_76 hl (k := 4) rfl (nI_1 i) (by decide) rfl (fun ls hl => ?_)
                refine lv_goto (tgt := 21) hx hb dX8_plan_79 (by decide) ?_
                exact ih (i + 1) ls _ _ (by omega) (by omega) hM hS (by have e : oI (bst (md_planP f d k) (f 15) (i + 1)) = oI (bst (md_planP f d k) (f 15) i) := (congrArg oI (bst_no (fun q => absurd q.1.2 (i_nle.mpr c2)))); rw [e]; exact lv_sub hl [1, 2, 3, 4, 0] rfl)
              · have c2 := c2
                rcases ho_1 : bst (md_planP f d k) (f 15) i with _ | j
                · have ho_1e : oI (bst (md_planP f d k) (f 15) i) = (-1 : Int32) := by rw [ho_1]; rfl
                  rw [ho_1e] at hl
                  refine lv_iload_n hx hb dX8_plan_52 rfl (lv_at hl 3 rfl) ?_
                  refine lv_iconst (v := (-1 : Int32)) hx hb dX8_plan_53 (by decide) ?_
                  refine lv_icmp_eq (tgt := 73) hx hb dX8_plan_54 (by decide) (fun c3 => ?_) (fun c3 => ?_)
                  · have c3 := c3
                    refine lv_iload hx hb dX8_plan_73 (lv_at hl 4 rfl) ?_
                    refine lv_istore_n (lv' := [(3, .int (nI i)), (0, .ref h), (1, .int d), (2, .int k), (4, .int (nI i))]) hx hb dX8_plan_75 rfl hl (by decide) rfl (fun ls hl => ?_)
                    refine lv_iinc (v := nI (i + 1)) (lv' := [(4, .int (nI (i + 1))), (3, .int (nI i)), (0, .ref h), (1, .int d), (2, .int k)]) hx hb dX8_plan_76 hl (k := 4) rfl (nI_1 i) (by decide) rfl (fun ls hl => ?_)
                    refine lv_goto (tgt := 21) hx hb dX8_plan_79 (by decide) ?_
                    exact ih (i + 1) ls _ _ (by omega) (by omega) hM hS (by have e : oI (bst (md_planP f d k) (f 15) (i + 1)) = nI i := (congrArg oI (bst_yes ⟨i_nlt.mp c1, i_nlt.mp c2⟩ (fun j hj => by rw [ho_1] at hj; cases hj))); rw [e]; exact lv_sub hl [2, 3, 4, 1, 0] rfl)
                  · have c3 := c3
                    exact absurd c3 (by decide)
                · have ho_1e : oI (bst (md_planP f d k) (f 15) i) = nI j := by rw [ho_1]; rfl
                  have hj := bst_some ho_1
                  rw [ho_1e] at hl
                  refine lv_iload_n hx hb dX8_plan_52 rfl (lv_at hl 3 rfl) ?_
                  refine lv_iconst (v := (-1 : Int32)) hx hb dX8_plan_53 (by decide) ?_
                  refine lv_icmp_eq (tgt := 73) hx hb dX8_plan_54 (by decide) (fun c3 => ?_) (fun c3 => ?_)
                  · have c3 := c3
                    exact absurd c3 (nI_nm1 (by omega))
                  · have c3 := c3
                    refine lv_aload_n hx hb dX8_plan_57 rfl (lv_at hl 0 rfl) ?_
                    refine md_getr hx hb hts hin_wsX80 hown hC hM 15 (by decide) rfl fl_30 dX8_plan_58 ?_
                    refine lv_iload hx hb dX8_plan_61 (lv_at hl 4 rfl) ?_
                    refine md_iald hx hb hC hM 15 rfl (j := i) (by omega) (by decide) dX8_plan_63 ?_
                    refine lv_aload_n hx hb dX8_plan_64 rfl (lv_at hl 0 rfl) ?_
                    refine md_getr hx hb hts hin_wsX80 hown hC hM 15 (by decide) rfl fl_30 dX8_plan_65 ?_
                    refine lv_iload_n hx hb dX8_plan_68 rfl (lv_at hl 3 rfl) ?_
                    refine md_iald hx hb hC hM 15 rfl (j := j) (by omega) (by decide) dX8_plan_69 ?_
                    refine lv_icmp_lt (tgt := 76) hx hb dX8_plan_70 (by decide) (fun c4 => ?_) (fun c4 => ?_)
                    · have c4 := c4
                      refine lv_iinc (v := nI (i + 1)) (lv' := [(4, .int (nI (i + 1))), (0, .ref h), (1, .int d), (2, .int k), (3, .int (nI j))]) hx hb dX8_plan_76 hl (k := 4) rfl (nI_1 i) (by decide) rfl (fun ls hl => ?_)
                      refine lv_goto (tgt := 21) hx hb dX8_plan_79 (by decide) ?_
                      exact ih (i + 1) ls _ _ (by omega) (by omega) hM hS (by have e : oI (bst (md_planP f d k) (f 15) (i + 1)) = nI j := (congrArg oI ((bst_no (fun q => absurd (q.2 j ho_1) (i_nle.mpr c4))).trans ho_1)); rw [e]; exact lv_sub hl [1, 2, 3, 4, 0] rfl)
                    · have c4 := c4
                      refine lv_iload hx hb dX8_plan_73 (lv_at hl 4 rfl) ?_
                      refine lv_istore_n (lv' := [(3, .int (nI i)), (0, .ref h), (1, .int d), (2, .int k), (4, .int (nI i))]) hx hb dX8_plan_75 rfl hl (by decide) rfl (fun ls hl => ?_)
                      refine lv_iinc (v := nI (i + 1)) (lv' := [(4, .int (nI (i + 1))), (3, .int (nI i)), (0, .ref h), (1, .int d), (2, .int k)]) hx hb dX8_plan_76 hl (k := 4) rfl (nI_1 i) (by decide) rfl (fun ls hl => ?_)
                      refine lv_goto (tgt := 21) hx hb dX8_plan_79 (by decide) ?_
                      exact ih (i + 1) ls _ _ (by omega) (by omega) hM hS (by have e : oI (bst (md_planP f d k) (f 15) (i + 1)) = nI i := (congrArg oI (bst_yes ⟨i_nlt.mp c1, i_nlt.mp c2⟩ (fun u hu => by rw [ho_1] at hu; cases hu; exact i_nlt.mp c4))); rw [e]; exact lv_sub hl [2, 3, 4, 1, 0] rfl)
      exact LP21 _ 0 ls _ _ (Nat.lt_succ_self _) (Nat.zero_le _) hM hS (lv_sub hl [2, 3, 4, 1, 0] rfl)
    · have ck : (pB (md_in k 0 9999)) = false := bI_0.mp ck
      refine lv_iconst (v := (-1 : Int32)) hx hb dX8_plan_16 (by decide) ?_
      exact mp_iret hx hb hr hlocks (Nat.le_of_ble_eq_true rfl) (Nat.le_of_ble_eq_true rfl) hM hS dX8_plan_17 (⟨by rw [md_plan, pB_f (fun q => by first | exact pB_not.mp cd q.1 | exact pB_not.mp ck q.2)]; rfl, rfl⟩)
abbrev rmX8_zoneOf : Room := { frames := 0, cells := 0, slots := 0, locals := 0 }
set_option maxHeartbeats 4000000 in
set_option maxRecDepth 100000 in
theorem c_X8_zoneOf (l : Launch) (X : mp_X) (G : mp_G) (A : Nat → Prop) (B : mp_M) (h : Nat) (ad : Nat → Nat) (n : Nat → Int32) (f : Nat → Nat → Int32) (p0 zm r : Nat) (hp9 : p0 < 21) (hzm : f 17 p0 = nI zm) (hzm9 : zm ≤ 8) : mp_Met l X G A yX8_zoneOf wsX8_zoneOf rmX8_zoneOf ([.ref h, .int (nI p0), .int (nI r)] : List Value) (md_M G B h ad n f) (fun v M1 => v = some (.int (oI (md_zoneO f p0 zm r))) ∧ M1 = md_M G B h ad n f) 0 0 := by
  refine mp_ofW (cc := cX8_zoneOf) (maxL := 4) (ret := (some .int)) (by decide) rfl (Nat.le_of_ble_eq_true rfl) ?_
  intro p e s m below meth c ls hx hb hr hts hown hlocks hnm hml hC hM hS hl
  have hl : lv_has ls 4 [(0, .ref h), (1, .int (nI p0)), (2, .int (nI r))] := hl
  have hown : s.vm.findClass RX8 = some m.cls := hown
  have fl_36 := hts (.fieldLink RX8 36 "PlanningBenchModel" "zoneMany" "[I") (List.mem_of_getElem? (i := 1) rfl)
  have hin_wsX80 : ∀ w ∈ wsX80, w ∈ wsX8_zoneOf := fun _ h => List.mem_cons_of_mem _ (List.mem_append_right _ h)
  have fl_39 := hts (.fieldLink RX8 39 "PlanningBenchModel" "zonePlots" "[I") (List.mem_of_getElem? (i := 2) rfl)
  refine lv_bipush (v := (8 : Int32)) hx hb dX8_zoneOf_0 (by decide) ?_
  refine lv_iload_n hx hb dX8_zoneOf_2 rfl (lv_at hl 1 rfl) ?_
  refine lv_imul hx hb dX8_zoneOf_3 ?_
  refine mp_top (nI (8 * p0)) (pk_mul 8 p0) ?_
  refine lv_istore_n (lv' := [(3, .int (nI (8 * p0))), (0, .ref h), (1, .int (nI p0)), (2, .int (nI r))]) hx hb dX8_zoneOf_4 rfl hl (by decide) rfl (fun ls hl => ?_)
  have LP5 : ∀ (kk : Nat) (i : Nat) (ls : Array Slot), zm - i < kk → i ≤ zm → fst (fun j => zbit (f 18 (8 * p0 + j)) (nI r)) i = none → lv_has ls 4 [(0, .ref h), (1, .int (nI p0)), (2, .int (nI r)), (3, .int (nI (8 * p0 + i)))] → W p l e rmX8_zoneOf s m ([.ref h, .int (nI p0), .int (nI r)] : List Value).toArray below meth c s.heap [] 0 0 (MQ below (mp_Q G.1 A (fun v M1 => v = some (.int (oI (md_zoneO f p0 zm r))) ∧ M1 = md_M G B h ad n f)) ([.ref h, .int (nI p0), .int (nI r)] : List Value).toArray s 0 0 A) (F0 m 5 ls []) := by
    intro kk
    induction kk with
    | zero => intro i ls hk; exact absurd hk (Nat.not_lt_zero _)
    | succ kk ih =>
      intro i ls hk hi hno hl
      refine lv_iload_n hx hb dX8_zoneOf_5 rfl (lv_at hl 3 rfl) ?_
      refine lv_bipush (v := (8 : Int32)) hx hb dX8_zoneOf_6 (by decide) ?_
      refine lv_iload_n hx hb dX8_zoneOf_8 rfl (lv_at hl 1 rfl) ?_
      refine lv_imul hx hb dX8_zoneOf_9 ?_
      refine mp_top (nI (8 * p0)) (pk_mul 8 p0) ?_
      refine lv_aload_n hx hb dX8_zoneOf_10 rfl (lv_at hl 0 rfl) ?_
      refine md_getr hx hb hts hin_wsX80 hown hC hM 17 (by decide) rfl fl_36 dX8_zoneOf_11 ?_
      refine lv_iload_n hx hb dX8_zoneOf_14 rfl (lv_at hl 1 rfl) ?_
      refine md_iald hx hb hC hM 17 rfl (j := p0) (by omega) (by decide) dX8_zoneOf_15 ?_
      refine mp_top (nI zm) hzm ?_
      refine lv_iadd hx hb dX8_zoneOf_16 ?_
      refine mp_top (nI ((8 * p0) + zm)) (nI_add (8 * p0) zm) ?_
      refine lv_icmp_ge (tgt := 42) hx hb dX8_zoneOf_17 (by decide) (fun hlt => ?_) (fun hlt => ?_)
      · have hlt := nn_le (a := (8 * p0) + zm) (b := 8 * p0 + i) (by omega) (by omega) hlt
        refine lv_iconst (v := (-1 : Int32)) hx hb dX8_zoneOf_42 (by decide) ?_
        exact mp_iret hx hb hr hlocks (Nat.le_of_ble_eq_true rfl) (Nat.le_of_ble_eq_true rfl) hM hS dX8_zoneOf_43 (⟨by rw [md_zoneO, show zm = i by omega, hno]; rfl, rfl⟩)
      · have hlt := nn_nle (a := (8 * p0) + zm) (b := 8 * p0 + i) (by omega) (by omega) hlt
        refine lv_aload_n hx hb dX8_zoneOf_20 rfl (lv_at hl 0 rfl) ?_
        refine md_getr hx hb hts hin_wsX80 hown hC hM 18 (by decide) rfl fl_39 dX8_zoneOf_21 ?_
        refine lv_iload_n hx hb dX8_zoneOf_24 rfl (lv_at hl 3 rfl) ?_
        refine md_iald hx hb hC hM 18 rfl (j := 8 * p0 + i) (by omega) (by decide) dX8_zoneOf_25 ?_
        refine lv_iload_n hx hb dX8_zoneOf_26 rfl (lv_at hl 2 rfl) ?_
        refine lv_ishr hx hb dX8_zoneOf_27 ?_
        refine lv_iconst (v := (1 : Int32)) hx hb dX8_zoneOf_28 (by decide) ?_
        refine lv_iand hx hb dX8_zoneOf_29 ?_
        refine lv_iconst (v := (1 : Int32)) hx hb dX8_zoneOf_30 (by decide) ?_
        refine lv_icmp_ne (tgt := 36) hx hb dX8_zoneOf_31 (by decide) (fun cz => ?_) (fun cz => ?_)
        · have cz := cz
          refine lv_iinc (v := nI (8 * p0 + i + 1)) (lv' := [(3, .int (nI (8 * p0 + i + 1))), (0, .ref h), (1, .int (nI p0)), (2, .int (nI r))]) hx hb dX8_zoneOf_36 hl (k := 3) rfl (nI_1 (8 * p0 + i)) (by decide) rfl (fun ls hl => ?_)
          refine lv_goto (tgt := 5) hx hb dX8_zoneOf_39 (by decide) ?_
          exact ih (i + 1) ls (by omega) (by omega) (fst_no hno cz) (lv_sub hl [1, 2, 3, 0] rfl)
        · have cz := cz
          refine lv_iload_n hx hb dX8_zoneOf_34 rfl (lv_at hl 3 rfl) ?_
          exact mp_iret hx hb hr hlocks (Nat.le_of_ble_eq_true rfl) (Nat.le_of_ble_eq_true rfl) hM hS dX8_zoneOf_35 (⟨by rw [md_zoneO, fst_up (fst_yes hno cz) (by omega)]; rfl, rfl⟩)
  exact LP5 _ 0 ls (Nat.lt_succ_self _) (Nat.zero_le _) rfl (lv_sub hl [1, 2, 3, 0] rfl)
