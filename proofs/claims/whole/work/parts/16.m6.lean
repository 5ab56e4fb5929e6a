/-! ===== words and numbers of a text ===== -/
noncomputable def we (t : Nat → Int32) (sz i : Nat) : Nat := sk (isL t) sz (tb t sz i)
noncomputable def dz (t : Nat → Int32) (sz i : Nat) : Nat := sk (isD t) sz (tb t sz i)
def dg (t : Nat → Int32) (a : Nat) : Nat → Int64
  | 0 => 0
  | k + 1 => if k < 7 then (dg t a k <<< ((8 : Int32).toInt64 &&& 63)) ||| (t (a + k)).toInt64 else 0
noncomputable def wd (t : Nat → Int32) (sz i : Nat) : Int64 := if we t sz i - tb t sz i ≤ 7 then dg t (tb t sz i) (we t sz i - tb t sz i) else 0
def nb (t : Nat → Int32) (a : Nat) : Nat → Int32
  | 0 => 0
  | k + 1 => if k < 3 then 10 * nb t a k + t (a + k) - 48 else nb t a k
def tnP (t : Nat → Int32) (sz i : Nat) : Prop := dz t sz i ≠ tb t sz i ∧ dz t sz i - tb t sz i ≤ 3
noncomputable def tnN (t : Nat → Int32) (sz i : Nat) : Nat := if pB (tnP t sz i) then dz t sz i else tb t sz i
noncomputable def tnV (t : Nat → Int32) (sz i : Nat) : Int32 := nb t (tb t sz i) (dz t sz i - tb t sz i)
theorem we_in {t : Nat → Int32} {sz i : Nat} (h : i ≤ sz) : i ≤ tb t sz i ∧ tb t sz i ≤ we t sz i ∧ we t sz i ≤ sz := by
  have h1 := tb_in (t := t) h
  have h2 := sk_in (P := isL t) h1.2
  exact ⟨h1.1, h2.1, h2.2⟩
theorem dz_in {t : Nat → Int32} {sz i : Nat} (h : i ≤ sz) : i ≤ tb t sz i ∧ tb t sz i ≤ dz t sz i ∧ dz t sz i ≤ sz := by
  have h1 := tb_in (t := t) h
  have h2 := sk_in (P := isD t) h1.2
  exact ⟨h1.1, h2.1, h2.2⟩
theorem tk_in {t : Nat → Int32} {sz i : Nat} (c : Int32) (h : i ≤ sz) : i ≤ tkN t sz i c ∧ tkN t sz i c ≤ sz := by
  have h1 := tb_in (t := t) h
  rw [tkN]
  by_cases q : tkP t sz i c
  · rw [pB_t q, if_pos rfl]; exact ⟨by omega, q.1⟩
  · rw [pB_f q, if_neg (by decide)]; exact h1
theorem tn_in {t : Nat → Int32} {sz i : Nat} (h : i ≤ sz) : i ≤ tnN t sz i ∧ tnN t sz i ≤ sz := by
  have h1 := dz_in (t := t) h
  rw [tnN]
  by_cases q : tnP t sz i
  · rw [pB_t q, if_pos rfl]; exact ⟨by omega, by omega⟩
  · rw [pB_f q, if_neg (by decide)]; exact ⟨by omega, by omega⟩
abbrev rmX8_word : Room := { frames := 1, cells := 0, slots := 0, locals := 20 }
set_option maxHeartbeats 4000000 in
set_option maxRecDepth 100000 in
theorem c_X8_word (l : Launch) (X : mp_X) (G : mp_G) (A : Nat → Prop) (B : mp_M) (h : Nat) (ad : Nat → Nat) (n : Nat → Int32) (f : Nat → Nat → Int32) (sz i : Nat) (hsz : n 12 = nI sz) (hsz9 : sz ≤ 600) (hi : n 13 = nI i) (hi9 : i ≤ sz) : mp_Met l X G A yX8_word wsX8_word rmX8_word ([.ref h] : List Value) (md_M G B h ad n f) (fun v1 M1 => v1 = some (.long (wd (f 10) sz i)) ∧ M1 = md_M G B h ad (upd (upd n 13 (nI (tb (f 10) sz i))) 21 (nI (we (f 10) sz i))) f) 0 0 := by
  refine mp_ofW (cc := cX8_word) (maxL := 3) (ret := (some .long)) (by decide) rfl (Nat.le_of_ble_eq_true rfl) ?_
  intro p e s m below meth c ls hx hb hr hts hown hlocks hnm hml hC hM hS hl
  have hl : lv_has ls 3 [(0, .ref h)] := hl
  have hown : s.vm.findClass RX8 = some m.cls := hown
  have fl_167 := hts (.fieldLink RX8 167 "PlanningBenchModel" "at" "I") (List.mem_of_getElem? (i := 1) rfl)
  have hin_wsX80 : ∀ w ∈ wsX80, w ∈ wsX8_word := fun _ h => List.mem_cons_of_mem _ (List.mem_append_right _ h)
  have fl_176 := hts (.fieldLink RX8 176 "PlanningBenchModel" "wordEnd" "I") (List.mem_of_getElem? (i := 2) rfl)
  have fl_170 := hts (.fieldLink RX8 170 "PlanningBenchModel" "size" "I") (List.mem_of_getElem? (i := 3) rfl)
  have fl_23 := hts (.fieldLink RX8 23 "PlanningBenchModel" "text" "[B") (List.mem_of_getElem? (i := 4) rfl)
  refine lv_aload_n hx hb dX8_word_0 rfl (lv_at hl 0 rfl) ?_
  have hb_1 := tb_in (t := (f 10)) (sz := sz) (i := i) (by omega)
  refine mp_callv (va_runV (As := []) (rest := []) ⟨hx, hb, hml, hown, hts⟩ (c_X8_blanks l X G A B h ad n f sz i hsz (by omega) hi (by omega)) (cwV 0 hts gX8_word_X8_blanks rfl rfl rfl (by decide +kernel) ⟨Nat.le_of_ble_eq_true rfl, Nat.le_of_ble_eq_true rfl⟩) (mp_preV hC hS hM (md_recv hC hM)) rfl rfl hl.1 rfl (lv_room (Nat.le_of_ble_eq_true rfl)) dX8_word_1 ⟨Nat.le_of_ble_eq_true rfl, Nat.le_of_ble_eq_true rfl⟩) hS (fun H locs hM hS => ?_)
  refine lv_aload_n hx hb dX8_word_4 rfl (lv_at hl 0 rfl) ?_
  refine lv_aload_n hx hb dX8_word_5 rfl (lv_at hl 0 rfl) ?_
  refine md_geti hx hb hts hin_wsX80 hown hC hM 13 (by decide) rfl fl_167 dX8_word_6 ?_
  refine mp_top (nI (tb (f 10) sz i)) rfl ?_
  refine md_puti hx hb hts hin_wsX80 hown hC hM hS 21 (by decide) rfl rfl rfl fl_176 dX8_word_9 (fun H locs hM hS => ?_)
  refine lv_lconst (v := (0 : Int64)) hx hb dX8_word_12 (by decide) ?_
  refine lv_lstore_n (lv' := [(1, .long (0 : Int64)), (0, .ref h)]) hx hb dX8_word_13 rfl hl (by decide) rfl (fun ls hl => ?_)
  have LP14 : ∀ (kk : Nat) (j : Nat) (ls : Array Slot) (H : Heap) (locs : List Loc), sz - j < kk → j ≤ sz → tb (f 10) sz i ≤ j → we (f 10) sz i = sk (isL (f 10)) sz j → mp_P G.1 A (md_M G B h ad (upd (upd n 13 (nI (tb (f 10) sz i))) 21 (nI j)) f) H → va_S A s.heap H locs → lv_has ls 3 [(0, .ref h), (1, .long (dg (f 10) (tb (f 10) sz i) (j - tb (f 10) sz i)))] → W p l e rmX8_word s m ([.ref h] : List Value).toArray below meth c H locs 0 0 (MQ below (mp_Q G.1 A (fun v1 M1 => v1 = some (.long (wd (f 10) sz i)) ∧ M1 = md_M G B h ad (upd (upd n 13 (nI (tb (f 10) sz i))) 21 (nI (we (f 10) sz i))) f)) ([.ref h] : List Value).toArray s 0 0 A) (F0 m 14 ls []) := by
    intro kk
    induction kk with
    | zero => intro j ls H locs hk; exact absurd hk (Nat.not_lt_zero _)
    | succ kk ih =>
      intro j ls H locs hk hj hj2 hsk hM hS hl
      refine lv_aload_n hx hb dX8_word_14 rfl (lv_at hl 0 rfl) ?_
      refine md_geti hx hb hts hin_wsX80 hown hC hM 21 (by decide) rfl fl_176 dX8_word_15 ?_
      refine mp_top (nI j) rfl ?_
      refine lv_aload_n hx hb dX8_word_18 rfl (lv_at hl 0 rfl) ?_
      refine md_geti hx hb hts hin_wsX80 hown hC hM 12 (by decide) rfl fl_170 dX8_word_19 ?_
      refine mp_top (n 12) rfl ?_
      refine mp_top (nI sz) hsz ?_
      refine lv_icmp_ge (tgt := 87) hx hb dX8_word_22 (by decide) (fun c1 => ?_) (fun c1 => ?_)
      · have c1 := nn_le (a := sz) (b := j) (by omega) (by omega) c1
        refine lv_aload_n hx hb dX8_word_87 rfl (lv_at hl 0 rfl) ?_
        refine md_geti hx hb hts hin_wsX80 hown hC hM 21 (by decide) rfl fl_176 dX8_word_88 ?_
        refine mp_top (nI j) rfl ?_
        refine lv_aload_n hx hb dX8_word_91 rfl (lv_at hl 0 rfl) ?_
        refine md_geti hx hb hts hin_wsX80 hown hC hM 13 (by decide) rfl fl_167 dX8_word_92 ?_
        refine mp_top (nI (tb (f 10) sz i)) rfl ?_
        refine lv_isub hx hb dX8_word_95 ?_
        refine mp_top (nI (j - (tb (f 10) sz i))) (pk_sub (a := j) (b := tb (f 10) sz i) (by omega)) ?_
        refine lv_bipush (v := (7 : Int32)) hx hb dX8_word_96 (by decide) ?_
        refine lv_icmp_le (tgt := 105) hx hb dX8_word_98 (by decide) (fun c4 => ?_) (fun c4 => ?_)
        · have c4 := nn_le (a := j - (tb (f 10) sz i)) (b := 7) (by omega) (by omega) c4
          refine lv_lload_n hx hb dX8_word_105 rfl (lv_at hl 1 rfl) ?_
          exact mp_lret hx hb hr hlocks (Nat.le_of_ble_eq_true rfl) (Nat.le_of_ble_eq_true rfl) hM hS dX8_word_106 (have ew : we (f 10) sz i = j := hsk.trans (sk_no (fun z => absurd z.1 (by omega))); ⟨by rw [wd, ew, if_pos c4], by rw [ew]⟩)
        · have c4 := nn_nle (a := j - (tb (f 10) sz i)) (b := 7) (by omega) (by omega) c4
          refine lv_lconst (v := (0 : Int64)) hx hb dX8_word_101 (by decide) ?_
          refine lv_goto (tgt := 106) hx hb dX8_word_102 (by decide) ?_
          exact mp_lret hx hb hr hlocks (Nat.le_of_ble_eq_true rfl) (Nat.le_of_ble_eq_true rfl) hM hS dX8_word_106 (have ew : we (f 10) sz i = j := hsk.trans (sk_no (fun z => absurd z.1 (by omega))); ⟨by rw [wd, ew, if_neg (by omega)], by rw [ew]⟩)
      · have c1 := nn_nle (a := sz) (b := j) (by omega) (by omega) c1
        refine lv_aload_n hx hb dX8_word_25 rfl (lv_at hl 0 rfl) ?_
        refine md_getr hx hb hts hin_wsX80 hown hC hM 10 (by decide) rfl fl_23 dX8_word_26 ?_
        refine lv_aload_n hx hb dX8_word_29 rfl (lv_at hl 0 rfl) ?_
        refine md_geti hx hb hts hin_wsX80 hown hC hM 21 (by decide) rfl fl_176 dX8_word_30 ?_
        refine mp_top (nI j) rfl ?_
        refine md_bald hx hb hC hM 10 rfl (j := j) (by omega) (by decide) dX8_word_33 ?_
        refine mp_calli (va_runS (As := [.int (f 10 j)]) (rest := []) ⟨hx, hb, hml, hown, hts⟩ (c_X8_isLetter l X G A (md_M G B h ad (upd (upd n 13 (nI (tb (f 10) sz i))) 21 (nI j)) f) (f 10 j)) (va_cwS 1 hts gX8_word_X8_isLetter rfl rfl rfl (by decide +kernel) ⟨Nat.le_of_ble_eq_true rfl, Nat.le_of_ble_eq_true rfl⟩) (mp_preS hC hS hM) rfl rfl hl.1 rfl (lv_room (Nat.le_of_ble_eq_true rfl)) dX8_word_34 ⟨Nat.le_of_ble_eq_true rfl, Nat.le_of_ble_eq_true rfl⟩) hS (fun H locs hM hS => ?_)
        refine lv_if_eq (tgt := 87) hx hb dX8_word_37 (by decide) (fun c2 => ?_) (fun c2 => ?_)
        · have c2 : (pB (md_in (f 10 j) 97 122)) = false := bI_0.mp c2
          refine lv_aload_n hx hb dX8_word_87 rfl (lv_at hl 0 rfl) ?_
          refine md_geti hx hb hts hin_wsX80 hown hC hM 21 (by decide) rfl fl_176 dX8_word_88 ?_
          refine mp_top (nI j) rfl ?_
          refine lv_aload_n hx hb dX8_word_91 rfl (lv_at hl 0 rfl) ?_
          refine md_geti hx hb hts hin_wsX80 hown hC hM 13 (by decide) rfl fl_167 dX8_word_92 ?_
          refine mp_top (nI (tb (f 10) sz i)) rfl ?_
          refine lv_isub hx hb dX8_word_95 ?_
          refine mp_top (nI (j - (tb (f 10) sz i))) (pk_sub (a := j) (b := tb (f 10) sz i) (by omega)) ?_
          refine lv_bipush (v := (7 : Int32)) hx hb dX8_word_96 (by decide) ?_
          refine lv_icmp_le (tgt := 105) hx hb dX8_word_98 (by decide) (fun c4 => ?_) (fun c4 => ?_)
          · have c4 := nn_le (a := j - (tb (f 10) sz i)) (b := 7) (by omega) (by omega) c4
            refine lv_lload_n hx hb dX8_word_105 rfl (lv_at hl 1 rfl) ?_
            exact mp_lret hx hb hr hlocks (Nat.le_of_ble_eq_true rfl) (Nat.le_of_ble_eq_true rfl) hM hS dX8_word_106 (have ew : we (f 10) sz i = j := hsk.trans (sk_no (fun z => pB_not.mp c2 z.2)); ⟨by rw [wd, ew, if_pos c4], by rw [ew]⟩)
          · have c4 := nn_nle (a := j - (tb (f 10) sz i)) (b := 7) (by omega) (by omega) c4
            refine lv_lconst (v := (0 : Int64)) hx hb dX8_word_101 (by decide) ?_
            refine lv_goto (tgt := 106) hx hb dX8_word_102 (by decide) ?_
            exact mp_lret hx hb hr hlocks (Nat.le_of_ble_eq_true rfl) (Nat.le_of_ble_eq_true rfl) hM hS dX8_word_106 (have ew : we (f 10) sz i = j := hsk.trans (sk_no (fun z => pB_not.mp c2 z.2)); ⟨by rw [wd, ew, if_neg (by omega)], by rw [ew]⟩)
        · have c2 : (pB (md_in (f 10 j) 97 122)) = true := bI_1.mp c2
          refine lv_aload_n hx hb dX8_word_40 rfl (lv_at hl 0 rfl) ?_
          refine md_geti hx hb hts hin_wsX80 hown hC hM 21 (by decide) rfl fl_176 dX8_word_41 ?_
          refine mp_top (nI j) rfl ?_
          refine lv_aload_n hx hb dX8_word_44 rfl (lv_at hl 0 rfl) ?_
          refine md_geti hx hb hts hin_wsX80 hown hC hM 13 (by decide) rfl fl_167 dX8_word_45 ?_
          refine mp_top (nI (tb (f 10) sz i)) rfl ?_
          refine lv_isub hx hb dX8_word_48 ?_
          refine mp_top (nI (j - (tb (f 10) sz i))) (pk_sub (a := j) (b := tb (f 10) sz i) (by omega)) ?_
          refine lv_bipush (v := (7 : Int32)) hx hb dX8_word_49 (by decide) ?_
          refine lv_icmp_ge (tgt := 72) hx hb dX8_word_51 (by decide) (fun c3 => ?_) (fun c3 => ?_)
          · have c3 := nn_le (a := 7) (b := j - (tb (f 10) sz i)) (by omega) (by omega) c3
            refine lv_lconst (v := (0 : Int64)) hx hb dX8_word_72 (by decide) ?_
            refine lv_lstore_n (lv' := [(1, .long (0 : Int64)), (0, .ref h)]) hx hb dX8_word_73 rfl hl (by decide) rfl (fun ls hl => ?_)
            refine lv_aload_n hx hb dX8_word_74 rfl (lv_at hl 1 rfl) ?_
            refine lv_dup hx hb dX8_word_75 rfl ?_
            refine md_geti hx hb hts hin_wsX80 hown hC hM 21 (by decide) rfl fl_176 dX8_word_76 ?_
            refine mp_top (nI j) rfl ?_
            refine lv_iconst (v := (1 : Int32)) hx hb dX8_word_79 (by decide) ?_
            refine lv_iadd hx hb dX8_word_80 ?_
            refine mp_top (nI (j + 1)) (nI_add j 1) ?_
            refine md_puti hx hb hts hin_wsX80 hown hC hM hS 21 (by decide) rfl rfl rfl fl_176 dX8_word_81 (fun H locs hM hS => ?_)
            rw [upd_uu] at hM
            refine lv_goto (tgt := 14) hx hb dX8_word_84 (by decide) ?_
            exact ih (j + 1) ls _ _ (by omega) (by omega) (by omega) (hsk.trans (sk_yes c1 (pB_iff.mp c2))) hM hS (by have e : dg (f 10) (tb (f 10) sz i) (j + 1 - tb (f 10) sz i) = (0 : Int64) := (by rw [show j + 1 - tb (f 10) sz i = (j - tb (f 10) sz i) + 1 by omega, dg, if_neg (by omega)]); rw [e]; exact lv_sub hl [1, 0] rfl)
          · have c3 := nn_nle (a := 7) (b := j - (tb (f 10) sz i)) (by omega) (by omega) c3
            refine lv_lload_n hx hb dX8_word_54 rfl (lv_at hl 1 rfl) ?_
            refine lv_bipush (v := (8 : Int32)) hx hb dX8_word_55 (by decide) ?_
            refine lv_lshl hx hb dX8_word_57 rfl ?_
            refine lv_aload_n hx hb dX8_word_58 rfl (lv_at hl 0 rfl) ?_
            refine md_getr hx hb hts hin_wsX80 hown hC hM 10 (by decide) rfl fl_23 dX8_word_59 ?_
            refine lv_aload_n hx hb dX8_word_62 rfl (lv_at hl 0 rfl) ?_
            refine md_geti hx hb hts hin_wsX80 hown hC hM 21 (by decide) rfl fl_176 dX8_word_63 ?_
            refine mp_top (nI j) rfl ?_
            refine md_bald hx hb hC hM 10 rfl (j := j) (by omega) (by decide) dX8_word_66 ?_
            refine lv_i2l hx hb dX8_word_67 rfl ?_
            refine lv_lor hx hb dX8_word_68 ?_
            refine lv_goto (tgt := 73) hx hb dX8_word_69 (by decide) ?_
            refine lv_lstore_n (lv' := [(1, .long (((dg (f 10) (tb (f 10) sz i) (j - tb (f 10) sz i)) <<< ((8 : Int32).toInt64 &&& 63)) ||| ((f 10 j).toInt64))), (0, .ref h)]) hx hb dX8_word_73 rfl hl (by decide) rfl (fun ls hl => ?_)
            refine lv_aload_n hx hb dX8_word_74 rfl (lv_at hl 1 rfl) ?_
            refine lv_dup hx hb dX8_word_75 rfl ?_
            refine md_geti hx hb hts hin_wsX80 hown hC hM 21 (by decide) rfl fl_176 dX8_word_76 ?_
            refine mp_top (nI j) rfl ?_
            refine lv_iconst (v := (1 : Int32)) hx hb dX8_word_79 (by decide) ?_
            refine lv_iadd hx hb dX8_word_80 ?_
            refine mp_top (nI (j + 1)) (nI_add j 1) ?_
            refine md_puti hx hb hts hin_wsX80 hown hC hM hS 21 (by decide) rfl rfl rfl fl_176 dX8_word_81 (fun H locs hM hS => ?_)
            rw [upd_uu] at hM
            refine lv_goto (tgt := 14) hx hb dX8_word_84 (by decide) ?_
            exact ih (j + 1) ls _ _ (by omega) (by omega) (by omega) (hsk.trans (sk_yes c1 (pB_iff.mp c2))) hM hS (by have e : dg (f 10) (tb (f 10) sz i) (j + 1 - tb (f 10) sz i) = ((dg (f 10) (tb (f 10) sz i) (j - tb (f 10) sz i)) <<< ((8 : Int32).toInt64 &&& 63)) ||| ((f 10 j).toInt64) := (by rw [show j + 1 - tb (f 10) sz i = (j - tb (f 10) sz i) + 1 by omega, dg, if_pos c3]; rw [show tb (f 10) sz i + (j - tb (f 10) sz i) = j by omega]); rw [e]; exact lv_sub hl [1, 0] rfl)
  exact LP14 _ (tb (f 10) sz i) ls _ _ (Nat.lt_succ_self _) (by omega) (Nat.le_refl _) rfl hM hS (by rw [Nat.sub_self]; exact lv_sub hl [1, 0] rfl)
abbrev rmX8_takesNumber : Room := { frames := 1, cells := 0, slots := 0, locals := 20 }
set_option maxHeartbeats 4000000 in
set_option maxRecDepth 100000 in
theorem c_X8_takesNumber (l : Launch) (X : mp_X) (G : mp_G) (A : Nat → Prop) (B : mp_M) (h : Nat) (ad : Nat → Nat) (n : Nat → Int32) (f : Nat → Nat → Int32) (sz i : Nat) (hsz : n 12 = nI sz) (hsz9 : sz ≤ 600) (hi : n 13 = nI i) (hi9 : i ≤ sz) : mp_Met l X G A yX8_takesNumber wsX8_takesNumber rmX8_takesNumber ([.ref h] : List Value) (md_M G B h ad n f) (fun v1 M1 => v1 = some (.int (bI (pB (tnP (f 10) sz i)))) ∧ M1 = md_M G B h ad (upd (upd n 13 (nI (tnN (f 10) sz i))) 22 (tnV (f 10) sz i)) f) 0 0 := by
  refine mp_ofW (cc := cX8_takesNumber) (maxL := 2) (ret := (some .boolean)) (by decide) rfl (Nat.le_of_ble_eq_true rfl) ?_
  intro p e s m below meth c ls hx hb hr hts hown hlocks hnm hml hC hM hS hl
  have hl : lv_has ls 2 [(0, .ref h)] := hl
  have hown : s.vm.findClass RX8 = some m.cls := hown
  have fl_167 := hts (.fieldLink RX8 167 "PlanningBenchModel" "at" "I") (List.mem_of_getElem? (i := 1) rfl)
  have hin_wsX80 : ∀ w ∈ wsX80, w ∈ wsX8_takesNumber := fun _ h => List.mem_cons_of_mem _ (List.mem_append_right _ h)
  have fl_182 := hts (.fieldLink RX8 182 "PlanningBenchModel" "number" "I") (List.mem_of_getElem? (i := 2) rfl)
  have fl_170 := hts (.fieldLink RX8 170 "PlanningBenchModel" "size" "I") (List.mem_of_getElem? (i := 3) rfl)
  have fl_23 := hts (.fieldLink RX8 23 "PlanningBenchModel" "text" "[B") (List.mem_of_getElem? (i := 4) rfl)
  refine lv_aload_n hx hb dX8_takesNumber_0 rfl (lv_at hl 0 rfl) ?_
  have hb_1 := tb_in (t := (f 10)) (sz := sz) (i := i) (by omega)
  refine mp_callv (va_runV (As := []) (rest := []) ⟨hx, hb, hml, hown, hts⟩ (c_X8_blanks l X G A B h ad n f sz i hsz (by omega) hi (by omega)) (cwV 0 hts gX8_takesNumber_X8_blanks rfl rfl rfl (by decide +kernel) ⟨Nat.le_of_ble_eq_true rfl, Nat.le_of_ble_eq_true rfl⟩) (mp_preV hC hS hM (md_recv hC hM)) rfl rfl hl.1 rfl (lv_room (Nat.le_of_ble_eq_true rfl)) dX8_takesNumber_1 ⟨Nat.le_of_ble_eq_true rfl, Nat.le_of_ble_eq_true rfl⟩) hS (fun H locs hM hS => ?_)
  refine lv_aload_n hx hb dX8_takesNumber_4 rfl (lv_at hl 0 rfl) ?_
  refine md_geti hx hb hts hin_wsX80 hown hC hM 13 (by decide) rfl fl_167 dX8_takesNumber_5 ?_
  refine mp_top (nI (tb (f 10) sz i)) rfl ?_
  refine lv_istore_n (lv' := [(1, .int (nI (tb (f 10) sz i))), (0, .ref h)]) hx hb dX8_takesNumber_8 rfl hl (by decide) rfl (fun ls hl => ?_)
  refine lv_aload_n hx hb dX8_takesNumber_9 rfl (lv_at hl 1 rfl) ?_
  refine lv_iconst (v := (0 : Int32)) hx hb dX8_takesNumber_10 (by decide) ?_
  refine md_puti hx hb hts hin_wsX80 hown hC hM hS 22 (by decide) rfl rfl rfl fl_182 dX8_takesNumber_11 (fun H locs hM hS => ?_)
  have LP14 : ∀ (kk : Nat) (j : Nat) (ls : Array Slot) (H : Heap) (locs : List Loc), sz - j < kk → j ≤ sz → tb (f 10) sz i ≤ j → dz (f 10) sz i = sk (isD (f 10)) sz j → mp_P G.1 A (md_M G B h ad (upd (upd n 13 (nI (tb (f 10) sz i))) 22 (nb (f 10) (tb (f 10) sz i) (j - tb (f 10) sz i))) f) H → va_S A s.heap H locs → lv_has ls 2 [(0, .ref h), (1, .int (nI j))] → W p l e rmX8_takesNumber s m ([.ref h] : List Value).toArray below meth c H locs 0 0 (MQ below (mp_Q G.1 A (fun v1 M1 => v1 = some (.int (bI (pB (tnP (f 10) sz i)))) ∧ M1 = md_M G B h ad (upd (upd n 13 (nI (tnN (f 10) sz i))) 22 (tnV (f 10) sz i)) f)) ([.ref h] : List Value).toArray s 0 0 A) (F0 m 14 ls []) := by
    intro kk
    induction kk with
    | zero => intro j ls H locs hk; exact absurd hk (Nat.not_lt_zero _)
    | succ kk ih =>
      intro j ls H locs hk hj hj2 hsk hM hS hl
      refine lv_iload_n hx hb dX8_takesNumber_14 rfl (lv_at hl 1 rfl) ?_
      refine lv_aload_n hx hb dX8_takesNumber_15 rfl (lv_at hl 0 rfl) ?_
      refine md_geti hx hb hts hin_wsX80 hown hC hM 12 (by decide) rfl fl_170 dX8_takesNumber_16 ?_
      refine mp_top (n 12) rfl ?_
      refine mp_top (nI sz) hsz ?_
      refine lv_icmp_ge (tgt := 71) hx hb dX8_takesNumber_19 (by decide) (fun c1 => ?_) (fun c1 => ?_)
      · have c1 := nn_le (a := sz) (b := j) (by omega) (by omega) c1
        refine lv_iload_n hx hb dX8_takesNumber_71 rfl (lv_at hl 1 rfl) ?_
        refine lv_aload_n hx hb dX8_takesNumber_72 rfl (lv_at hl 0 rfl) ?_
        refine md_geti hx hb hts hin_wsX80 hown hC hM 13 (by decide) rfl fl_167 dX8_takesNumber_73 ?_
        refine mp_top (nI (tb (f 10) sz i)) rfl ?_
        refine lv_icmp_eq (tgt := 89) hx hb dX8_takesNumber_76 (by decide) (fun c4 => ?_) (fun c4 => ?_)
        · have c4 := nn_eq (a := j) (b := tb (f 10) sz i) (by omega) (by omega) c4
          refine lv_iconst (v := (0 : Int32)) hx hb dX8_takesNumber_89 (by decide) ?_
          exact mp_zret hx hb hr hlocks (Nat.le_of_ble_eq_true rfl) (Nat.le_of_ble_eq_true rfl) hM hS dX8_takesNumber_90 (by first | rfl | exact bI_nar _) (have ew : dz (f 10) sz i = j := hsk.trans (sk_no (fun z => absurd z.1 (by omega))); have z0 : ¬ tnP (f 10) sz i := (fun z => by rw [tnP, ew] at z; exact z.1 c4); ⟨b0 z0, by rw [tnN, tnV, pB_f z0, if_neg (by decide), ew]⟩)
        · have c4 := nn_neq (a := j) (b := tb (f 10) sz i) (by omega) (by omega) c4
          refine lv_iload_n hx hb dX8_takesNumber_79 rfl (lv_at hl 1 rfl) ?_
          refine lv_aload_n hx hb dX8_takesNumber_80 rfl (lv_at hl 0 rfl) ?_
          refine md_geti hx hb hts hin_wsX80 hown hC hM 13 (by decide) rfl fl_167 dX8_takesNumber_81 ?_
          refine mp_top (nI (tb (f 10) sz i)) rfl ?_
          refine lv_isub hx hb dX8_takesNumber_84 ?_
          refine mp_top (nI (j - (tb (f 10) sz i))) (pk_sub (a := j) (b := tb (f 10) sz i) (by omega)) ?_
          refine lv_iconst (v := (3 : Int32)) hx hb dX8_takesNumber_85 (by decide) ?_
          refine lv_icmp_le (tgt := 91) hx hb dX8_takesNumber_86 (by decide) (fun c5 => ?_) (fun c5 => ?_)
          · have c5 := nn_le (a := j - (tb (f 10) sz i)) (b := 3) (by omega) (by omega) c5
            refine lv_aload_n hx hb dX8_takesNumber_91 rfl (lv_at hl 0 rfl) ?_
            refine lv_iload_n hx hb dX8_takesNumber_92 rfl (lv_at hl 1 rfl) ?_
            refine md_puti hx hb hts hin_wsX80 hown hC hM hS 13 (by decide) rfl rfl rfl fl_167 dX8_takesNumber_93 (fun H locs hM hS => ?_)
            refine lv_iconst (v := (1 : Int32)) hx hb dX8_takesNumber_96 (by decide) ?_
            exact mp_zret hx hb hr hlocks (Nat.le_of_ble_eq_true rfl) (Nat.le_of_ble_eq_true rfl) hM hS dX8_takesNumber_97 (by first | rfl | exact bI_nar _) (have ew : dz (f 10) sz i = j := hsk.trans (sk_no (fun z => absurd z.1 (by omega))); have z0 : tnP (f 10) sz i := ⟨by rw [ew]; exact c4, by rw [ew]; exact c5⟩; ⟨b1 z0, by rw [tnN, tnV, pB_t z0, if_pos rfl, ew, upd_comm _ (by decide), upd_uu]⟩)
          · have c5 := nn_nle (a := j - (tb (f 10) sz i)) (b := 3) (by omega) (by omega) c5
            refine lv_iconst (v := (0 : Int32)) hx hb dX8_takesNumber_89 (by decide) ?_
            exact mp_zret hx hb hr hlocks (Nat.le_of_ble_eq_true rfl) (Nat.le_of_ble_eq_true rfl) hM hS dX8_takesNumber_90 (by first | rfl | exact bI_nar _) (have ew : dz (f 10) sz i = j := hsk.trans (sk_no (fun z => absurd z.1 (by omega))); have z0 : ¬ tnP (f 10) sz i := (fun z => by rw [tnP, ew] at z; exact absurd z.2 (by omega)); ⟨b0 z0, by rw [tnN, tnV, pB_f z0, if_neg (by decide), ew]⟩)
      · have c1 := nn_nle (a := sz) (b := j) (by omega) (by omega) c1
        refine lv_aload_n hx hb dX8_takesNumber_22 rfl (lv_at hl 0 rfl) ?_
        refine md_getr hx hb hts hin_wsX80 hown hC hM 10 (by decide) rfl fl_23 dX8_takesNumber_23 ?_
        refine lv_iload_n hx hb dX8_takesNumber_26 rfl (lv_at hl 1 rfl) ?_
        refine md_bald hx hb hC hM 10 rfl (j := j) (by omega) (by decide) dX8_takesNumber_27 ?_
        refine mp_calli (va_runS (As := [.int (f 10 j)]) (rest := []) ⟨hx, hb, hml, hown, hts⟩ (c_X8_isDigit l X G A (md_M G B h ad (upd (upd n 13 (nI (tb (f 10) sz i))) 22 (nb (f 10) (tb (f 10) sz i) (j - tb (f 10) sz i))) f) (f 10 j)) (va_cwS 1 hts gX8_takesNumber_X8_isDigit rfl rfl rfl (by decide +kernel) ⟨Nat.le_of_ble_eq_true rfl, Nat.le_of_ble_eq_true rfl⟩) (mp_preS hC hS hM) rfl rfl hl.1 rfl (lv_room (Nat.le_of_ble_eq_true rfl)) dX8_takesNumber_28 ⟨Nat.le_of_ble_eq_true rfl, Nat.le_of_ble_eq_true rfl⟩) hS (fun H locs hM hS => ?_)
        refine lv_if_eq (tgt := 71) hx hb dX8_takesNumber_31 (by decide) (fun c2 => ?_) (fun c2 => ?_)
        · have c2 : (pB (md_in (f 10 j) 48 57)) = false := bI_0.mp c2
          refine lv_iload_n hx hb dX8_takesNumber_71 rfl (lv_at hl 1 rfl) ?_
          refine lv_aload_n hx hb dX8_takesNumber_72 rfl (lv_at hl 0 rfl) ?_
          refine md_geti hx hb hts hin_wsX80 hown hC hM 13 (by decide) rfl fl_167 dX8_takesNumber_73 ?_
          refine mp_top (nI (tb (f 10) sz i)) rfl ?_
          refine lv_icmp_eq (tgt := 89) hx hb dX8_takesNumber_76 (by decide) (fun c4 => ?_) (fun c4 => ?_)
          · have c4 := nn_eq (a := j) (b := tb (f 10) sz i) (by omega) (by omega) c4
            refine lv_iconst (v := (0 : Int32)) hx hb dX8_takesNumber_89 (by decide) ?_
            exact mp_zret hx hb hr hlocks (Nat.le_of_ble_eq_true rfl) (Nat.le_of_ble_eq_true rfl) hM hS dX8_takesNumber_90 (by first | rfl | exact bI_nar _) (have ew : dz (f 10) sz i = j := hsk.trans (sk_no (fun z => pB_not.mp c2 z.2)); have z0 : ¬ tnP (f 10) sz i := (fun z => by rw [tnP, ew] at z; exact z.1 c4); ⟨b0 z0, by rw [tnN, tnV, pB_f z0, if_neg (by decide), ew]⟩)
          · have c4 := nn_neq (a := j) (b := tb (f 10) sz i) (by omega) (by omega) c4
            refine lv_iload_n hx hb dX8_takesNumber_79 rfl (lv_at hl 1 rfl) ?_
            refine lv_aload_n hx hb dX8_takesNumber_80 rfl (lv_at hl 0 rfl) ?_
            refine md_geti hx hb hts hin_wsX80 hown hC hM 13 (by decide) rfl fl_167 dX8_takesNumber_81 ?_
            refine mp_top (nI (tb (f 10) sz i)) rfl ?_
            refine lv_isub hx hb dX8_takesNumber_84 ?_
            refine mp_top (nI (j - (tb (f 10) sz i))) (pk_sub (a := j) (b := tb (f 10) sz i) (by omega)) ?_
            refine lv_iconst (v := (3 : Int32)) hx hb dX8_takesNumber_85 (by decide) ?_
            refine lv_icmp_le (tgt := 91) hx hb dX8_takesNumber_86 (by decide) (fun c5 => ?_) (fun c5 => ?_)
            · have c5 := nn_le (a := j - (tb (f 10) sz i)) (b := 3) (by omega) (by omega) c5
              refine lv_aload_n hx hb dX8_takesNumber_91 rfl (lv_at hl 0 rfl) ?_
              refine lv_iload_n hx hb dX8_takesNumber_92 rfl (lv_at hl 1 rfl) ?_
              refine md_puti hx hb hts hin_wsX80 hown hC hM hS 13 (by decide) rfl rfl rfl fl_167 dX8_takesNumber_93 (fun H locs hM hS => ?_)
              refine lv_iconst (v := (1 : Int32)) hx hb dX8_takesNumber_96 (by decide) ?_
              exact mp_zret hx hb hr hlocks (Nat.le_of_ble_eq_true rfl) (Nat.le_of_ble_eq_true rfl) hM hS dX8_takesNumber_97 (by first | rfl | exact bI_nar _) (have ew : dz (f 10) sz i = j := hsk.trans (sk_no (fun z => pB_not.mp c2 z.2)); have z0 : tnP (f 10) sz i := ⟨by rw [ew]; exact c4, by rw [ew]; exact c5⟩; ⟨b1 z0, by rw [tnN, tnV, pB_t z0, if_pos rfl, ew, upd_comm _ (by decide), upd_uu]⟩)
            · have c5 := nn_nle (a := j - (tb (f 10) sz i)) (b := 3) (by omega) (by omega) c5
              refine lv_iconst (v := (0 : Int32)) hx hb dX8_takesNumber_89 (by decide) ?_
              exact mp_zret hx hb hr hlocks (Nat.le_of_ble_eq_true rfl) (Nat.le_of_ble_eq_true rfl) hM hS dX8_takesNumber_90 (by first | rfl | exact bI_nar _) (have ew : dz (f 10) sz i = j := hsk.trans (sk_no (fun z => pB_not.mp c2 z.2)); have z0 : ¬ tnP (f 10) sz i := (fun z => by rw [tnP, ew] at z; exact absurd z.2 (by omega)); ⟨b0 z0, by rw [tnN, tnV, pB_f z0, if_neg (by decide), ew]⟩)
        · have c2 : (pB (md_in (f 10 j) 48 57)) = true := bI_1.mp c2
          refine lv_iload_n hx hb dX8_takesNumber_34 rfl (lv_at hl 1 rfl) ?_
          refine lv_aload_n hx hb dX8_takesNumber_35 rfl (lv_at hl 0 rfl) ?_
          refine md_geti hx hb hts hin_wsX80 hown hC hM 13 (by decide) rfl fl_167 dX8_takesNumber_36 ?_
          refine mp_top (nI (tb (f 10) sz i)) rfl ?_
          refine lv_isub hx hb dX8_takesNumber_39 ?_
          refine mp_top (nI (j - (tb (f 10) sz i))) (pk_sub (a := j) (b := tb (f 10) sz i) (by omega)) ?_
          refine lv_iconst (v := (3 : Int32)) hx hb dX8_takesNumber_40 (by decide) ?_
          refine lv_icmp_ge (tgt := 65) hx hb dX8_takesNumber_41 (by decide) (fun c3 => ?_) (fun c3 => ?_)
          · have c3 := nn_le (a := 3) (b := j - (tb (f 10) sz i)) (by omega) (by omega) c3
            refine lv_iinc (v := nI (j + 1)) (lv' := [(1, .int (nI (j + 1))), (0, .ref h)]) hx hb dX8_takesNumber_65 hl (k := 1) rfl (nI_1 j) (by decide) rfl (fun ls hl => ?_)
            refine lv_goto (tgt := 14) hx hb dX8_takesNumber_68 (by decide) ?_
            exact ih (j + 1) ls _ _ (by omega) (by omega) (by omega) (hsk.trans (sk_yes c1 (pB_iff.mp c2))) (by have e : nb (f 10) (tb (f 10) sz i) (j + 1 - tb (f 10) sz i) = nb (f 10) (tb (f 10) sz i) (j - tb (f 10) sz i) := (by rw [show j + 1 - tb (f 10) sz i = (j - tb (f 10) sz i) + 1 by omega, nb, if_neg (by omega)]); rw [e]; exact hM) hS (lv_sub hl [1, 0] rfl)
          · have c3 := nn_nle (a := 3) (b := j - (tb (f 10) sz i)) (by omega) (by omega) c3
            refine lv_aload_n hx hb dX8_takesNumber_44 rfl (lv_at hl 0 rfl) ?_
            refine lv_bipush (v := (10 : Int32)) hx hb dX8_takesNumber_45 (by decide) ?_
            refine lv_aload_n hx hb dX8_takesNumber_47 rfl (lv_at hl 0 rfl) ?_
            refine md_geti hx hb hts hin_wsX80 hown hC hM 22 (by decide) rfl fl_182 dX8_takesNumber_48 ?_
            refine mp_top (nb (f 10) (tb (f 10) sz i) (j - tb (f 10) sz i)) rfl ?_
            refine lv_imul hx hb dX8_takesNumber_51 ?_
            refine lv_aload_n hx hb dX8_takesNumber_52 rfl (lv_at hl 0 rfl) ?_
            refine md_getr hx hb hts hin_wsX80 hown hC hM 10 (by decide) rfl fl_23 dX8_takesNumber_53 ?_
            refine lv_iload_n hx hb dX8_takesNumber_56 rfl (lv_at hl 1 rfl) ?_
            refine md_bald hx hb hC hM 10 rfl (j := j) (by omega) (by decide) dX8_takesNumber_57 ?_
            refine lv_iadd hx hb dX8_takesNumber_58 ?_
            refine lv_bipush (v := (48 : Int32)) hx hb dX8_takesNumber_59 (by decide) ?_
            refine lv_isub hx hb dX8_takesNumber_61 ?_
            refine md_puti hx hb hts hin_wsX80 hown hC hM hS 22 (by decide) rfl rfl rfl fl_182 dX8_takesNumber_62 (fun H locs hM hS => ?_)
            rw [upd_uu] at hM
            refine lv_iinc (v := nI (j + 1)) (lv' := [(1, .int (nI (j + 1))), (0, .ref h)]) hx hb dX8_takesNumber_65 hl (k := 1) rfl (nI_1 j) (by decide) rfl (fun ls hl => ?_)
            refine lv_goto (tgt := 14) hx hb dX8_takesNumber_68 (by decide) ?_
            exact ih (j + 1) ls _ _ (by omega) (by omega) (by omega) (hsk.trans (sk_yes c1 (pB_iff.mp c2))) (by have e : nb (f 10) (tb (f 10) sz i) (j + 1 - tb (f 10) sz i) = (((10 : Int32) * (nb (f 10) (tb (f 10) sz i) (j - tb (f 10) sz i))) + (f 10 j)) - (48 : Int32) := (by rw [show j + 1 - tb (f 10) sz i = (j - tb (f 10) sz i) + 1 by omega, nb, if_pos c3, show tb (f 10) sz i + (j - tb (f 10) sz i) = j by omega]); rw [e]; exact hM) hS (lv_sub hl [1, 0] rfl)
  exact LP14 _ (tb (f 10) sz i) ls _ _ (Nat.lt_succ_self _) (by omega) (Nat.le_refl _) rfl (by rw [Nat.sub_self]; exact hM) hS (lv_sub hl [1, 0] rfl)
