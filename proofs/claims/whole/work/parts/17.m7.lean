/-! ===== a plan's text ===== -/
abbrev zr : Type := Int32 × Int32 × (Nat → Int32)
def zr0 : zr := (0, 0, fun _ => -1)
noncomputable def itK (w : Int64) : Nat := if w = 114784769370228 then 0 else if w = 427071792498 then 1 else if w = 1701078885 then 2 else if w = 495672452197 then 3 else if w = 482855580787 then 5 else if w = 7697253 then 4 else 6
def bt1 (b v : Int32) : Int32 := if v < 16 then b ||| (1 <<< (v &&& 31)) else b
noncomputable def stp (t : Nat → Int32) (sz : Nat) : Nat → Nat → Int32 → Bool × Nat × Int32
  | 0, j, b => (false, j, b)
  | k + 1, j, b => if pB (tnP t sz j) then (if pB (tb t sz (tnN t sz j) < sz ∧ isD t (tb t sz (tnN t sz j))) then stp t sz k (tb t sz (tnN t sz j)) (bt1 b (tnV t sz j)) else (true, tb t sz (tnN t sz j), bt1 b (tnV t sz j))) else (false, tnN t sz j, b)
theorem stp_in {t : Nat → Int32} {sz : Nat} : ∀ (k i : Nat) (b : Int32), i ≤ sz → i ≤ (stp t sz k i b).2.1 ∧ (stp t sz k i b).2.1 ≤ sz
  | 0, i, b, h => ⟨Nat.le_refl _, h⟩
  | k + 1, i, b, h => by
    have h1 := tn_in (t := t) h
    have h2 := tb_in (t := t) h1.2
    rw [stp]
    by_cases q : tnP t sz i
    · rw [pB_t q, if_pos rfl]
      by_cases q2 : tb t sz (tnN t sz i) < sz ∧ isD t (tb t sz (tnN t sz i))
      · rw [pB_t q2, if_pos rfl]
        have h3 := stp_in (t := t) k (tb t sz (tnN t sz i)) (bt1 b (tnV t sz i)) h2.2
        exact ⟨by omega, h3.2⟩
      · rw [pB_f q2, if_neg (by decide)]
        exact ⟨by show i ≤ tb t sz (tnN t sz i); omega, h2.2⟩
    · rw [pB_f q, if_neg (by decide)]
      exact h1
noncomputable def itemS (t : Nat → Int32) (sz i : Nat) (r : zr) : Bool × Nat × zr :=
  if itK (wd t sz i) = 6 then (false, tb t sz i, r)
  else if itK (wd t sz i) < 4 then
    (if pB (tnP t sz (we t sz i)) then (pB (tkP t sz (tnN t sz (we t sz i)) 59), tkN t sz (tnN t sz (we t sz i)) 59, (r.1, r.2.1, upd r.2.2 (itK (wd t sz i)) (tnV t sz (we t sz i)))) else (false, tnN t sz (we t sz i), r))
  else if (stp t sz 601 (we t sz i) 0).1 then (pB (tkP t sz (stp t sz 601 (we t sz i) 0).2.1 59), tkN t sz (stp t sz 601 (we t sz i) 0).2.1 59, if itK (wd t sz i) = 4 then (r.1, (stp t sz 601 (we t sz i) 0).2.2, r.2.2) else ((stp t sz 601 (we t sz i) 0).2.2, r.2.1, r.2.2))
  else (false, (stp t sz 601 (we t sz i) 0).2.1, r)
theorem tk_gt {t : Nat → Int32} {sz i : Nat} {c : Int32} (h : i ≤ sz) (q : tkP t sz i c) : i < tkN t sz i c := by
  have h1 := tb_in (t := t) h
  rw [tkN, pB_t q, if_pos rfl]; omega
theorem itemS_in {t : Nat → Int32} {sz i : Nat} (r : zr) (h : i ≤ sz) : i ≤ (itemS t sz i r).2.1 ∧ (itemS t sz i r).2.1 ≤ sz ∧ ((itemS t sz i r).1 = true → i < (itemS t sz i r).2.1) := by
  have h1 := we_in (t := t) h
  have h2 := tn_in (t := t) h1.2.2
  have h4 := stp_in (t := t) 601 (we t sz i) 0 h1.2.2
  rw [itemS]
  by_cases k6 : itK (wd t sz i) = 6
  · rw [if_pos k6]
    exact ⟨h1.1, by show tb t sz i ≤ sz; omega, fun z => by cases z⟩
  · rw [if_neg k6]
    by_cases k4 : itK (wd t sz i) < 4
    · rw [if_pos k4]
      by_cases q : tnP t sz (we t sz i)
      · rw [pB_t q, if_pos rfl]
        have h3 := tk_in (t := t) 59 h2.2
        refine ⟨by show i ≤ tkN _ _ _ _; omega, h3.2, fun z => ?_⟩
        have h5 := tk_gt h2.2 (pB_iff.mp z)
        show i < tkN _ _ _ _
        omega
      · rw [pB_f q, if_neg (by decide)]
        exact ⟨by show i ≤ tnN _ _ _; omega, h2.2, fun z => by cases z⟩
    · rw [if_neg k4]
      by_cases q : (stp t sz 601 (we t sz i) 0).1 = true
      · rw [if_pos q]
        have h3 := tk_in (t := t) 59 h4.2
        refine ⟨by show i ≤ tkN _ _ _ _; omega, h3.2, fun z => ?_⟩
        have h5 := tk_gt h4.2 (pB_iff.mp z)
        show i < tkN _ _ _ _
        omega
      · rw [if_neg q]
        exact ⟨by show i ≤ (stp t sz 601 (we t sz i) 0).2.1; omega, h4.2, fun z => by cases z⟩
noncomputable def itB (t : Nat → Int32) (sz : Nat) : Nat → Nat → zr → Bool × Nat × zr
  | 0, i, r => (false, i, r)
  | k + 1, i, r => if (itemS t sz i r).1 then (if pB (tkP t sz (itemS t sz i r).2.1 125) then (true, tkN t sz (itemS t sz i r).2.1 125, (itemS t sz i r).2.2) else itB t sz k (tkN t sz (itemS t sz i r).2.1 125) (itemS t sz i r).2.2) else (false, (itemS t sz i r).2.1, (itemS t sz i r).2.2)
noncomputable def itA (t : Nat → Int32) (sz i : Nat) (r : zr) : Bool × Nat × zr := if pB (tkP t sz i 125) then (true, tkN t sz i 125, r) else itB t sz 601 (tkN t sz i 125) r
theorem itB_in {t : Nat → Int32} {sz : Nat} : ∀ (k i : Nat) (r : zr), i ≤ sz → i ≤ (itB t sz k i r).2.1 ∧ (itB t sz k i r).2.1 ≤ sz
  | 0, i, r, h => ⟨Nat.le_refl _, h⟩
  | k + 1, i, r, h => by
    have h1 := itemS_in (t := t) r h
    have h2 := tk_in (t := t) 125 h1.2.1
    rw [itB]
    by_cases q : (itemS t sz i r).1 = true
    · rw [if_pos q]
      by_cases q2 : tkP t sz (itemS t sz i r).2.1 125
      · rw [pB_t q2, if_pos rfl]
        exact ⟨by show i ≤ tkN _ _ _ _; omega, h2.2⟩
      · rw [pB_f q2, if_neg (by decide)]
        have h3 := itB_in (t := t) k _ (itemS t sz i r).2.2 h2.2
        exact ⟨by omega, h3.2⟩
    · rw [if_neg q]
      exact ⟨h1.1, h1.2.1⟩
theorem itA_in {t : Nat → Int32} {sz i : Nat} (r : zr) (h : i ≤ sz) : i ≤ (itA t sz i r).2.1 ∧ (itA t sz i r).2.1 ≤ sz := by
  have h2 := tk_in (t := t) 125 h
  rw [itA]
  by_cases q2 : tkP t sz i 125
  · rw [pB_t q2, if_pos rfl]
    exact h2
  · rw [pB_f q2, if_neg (by decide)]
    have h3 := itB_in (t := t) 601 _ r h2.2
    exact ⟨by omega, h3.2⟩
/-- from a place behind the blanks: the zones that follow -/
noncomputable def zoS (t : Nat → Int32) (sz : Nat) : Nat → Nat → Nat → (Nat → zr) → Bool × Nat × Nat × (Nat → zr)
  | 0, i, m, zs => (false, i, m, zs)
  | k + 1, i, m, zs => if i < sz then (if pB (wd t sz i = 2054123109 ∧ m ≠ 8) then
      (if pB (tkP t sz (we t sz i) 123) then
        (if (itA t sz (tkN t sz (we t sz i) 123) zr0).1 then zoS t sz k (tb t sz (itA t sz (tkN t sz (we t sz i) 123) zr0).2.1) (m + 1) (va_up zs m (itA t sz (tkN t sz (we t sz i) 123) zr0).2.2) else (false, (itA t sz (tkN t sz (we t sz i) 123) zr0).2.1, m, zs))
      else (false, tkN t sz (we t sz i) 123, m, zs)) else (false, tb t sz i, m, zs)) else (true, i, m, zs)
def nOK (n n2 : Nat → Int32) : Prop := ∀ k, k ≠ 13 → k ≠ 21 → k ≠ 22 → n2 k = n k
def zAt (f : Nat → Nat → Int32) (z : Nat) (r : zr) : Prop := f 18 z = r.1 ∧ f 19 z = r.2.1 ∧ ∀ u, u < 4 → f 20 (4 * z + u) = r.2.2 u
def zOK (f f2 : Nat → Nat → Int32) (z : Nat) (r : zr) : Prop := (∀ k, k ≠ 18 → k ≠ 19 → k ≠ 20 → f2 k = f k) ∧ (∀ y, y ≠ z → f2 18 y = f 18 y ∧ f2 19 y = f 19 y) ∧ (∀ y, y / 4 ≠ z → f2 20 y = f 20 y) ∧ zAt f2 z r
theorem zOK_same {f : Nat → Nat → Int32} {z : Nat} {r : zr} (h : zAt f z r) : zOK f f z r := ⟨fun _ _ _ _ => rfl, fun _ _ => ⟨rfl, rfl⟩, fun _ _ => rfl, h⟩
theorem zOK_num {f : Nat → Nat → Int32} {z k : Nat} {r : zr} (h : zAt f z r) (hk : k < 4) (v : Int32) : zOK f (va_up f 20 (upd (f 20) (4 * z + k) v)) z (r.1, r.2.1, upd r.2.2 k v) := by
  refine ⟨fun j _ _ h3 => va_up_ne _ _ h3, fun y hy => ⟨rfl, rfl⟩, fun y hy => ?_, h.1, h.2.1, fun u hu => ?_⟩
  · show upd (f 20) (4 * z + k) v y = f 20 y
    exact pk_un (by omega)
  · show upd (f 20) (4 * z + k) v (4 * z + u) = upd r.2.2 k v u
    by_cases e : u = k
    · rw [e, pk_us, pk_us]
    · rw [pk_un (by omega), pk_un e]; exact h.2.2 u hu
theorem zOK_use {f : Nat → Nat → Int32} {z : Nat} {r : zr} (h : zAt f z r) (v : Int32) : zOK f (va_up f 19 (upd (f 19) z v)) z (r.1, v, r.2.2) :=
  ⟨fun j _ h2 _ => va_up_ne _ _ h2, fun y hy => ⟨rfl, pk_un hy⟩, fun y hy => rfl, h.1, pk_us, h.2.2⟩
theorem zOK_plots {f : Nat → Nat → Int32} {z : Nat} {r : zr} (h : zAt f z r) (v : Int32) : zOK f (va_up f 18 (upd (f 18) z v)) z (v, r.2.1, r.2.2) :=
  ⟨fun j h1 _ _ => va_up_ne _ _ h1, fun y hy => ⟨pk_un hy, rfl⟩, fun y hy => rfl, pk_us, h.2.1, h.2.2⟩
abbrev rmX8_item : Room := { frames := 2, cells := 0, slots := 0, locals := 42 }
set_option maxHeartbeats 4000000 in
set_option maxRecDepth 100000 in
theorem c_X8_item (l : Launch) (X : mp_X) (G : mp_G) (A : Nat → Prop) (B : mp_M) (h : Nat) (ad : Nat → Nat) (n : Nat → Int32) (f : Nat → Nat → Int32) (sz i : Nat) (hsz : n 12 = nI sz) (hsz9 : sz ≤ 600) (hi : n 13 = nI i) (hi9 : i ≤ sz) (z : Nat) (hz9 : z < 168) (r : zr) (hz : zAt f z r) : mp_Met l X G A yX8_item wsX8_item rmX8_item ([.ref h, .int (nI z)] : List Value) (md_M G B h ad n f) (fun v1 M1 => ∃ n2 f2, M1 = md_M G B h ad n2 f2 ∧ v1 = some (.int (bI (itemS (f 10) sz i r).1)) ∧ n2 13 = nI (itemS (f 10) sz i r).2.1 ∧ nOK n n2 ∧ zOK f f2 z (itemS (f 10) sz i r).2.2) 0 0 := by
  refine mp_ofW (cc := cX8_item) (maxL := 7) (ret := (some .boolean)) (by decide) rfl (Nat.le_of_ble_eq_true rfl) ?_
  intro p e s m below meth c ls hx hb hr hts hown hlocks hnm hml hC hM hS hl
  have hl : lv_has ls 7 [(0, .ref h), (1, .int (nI z))] := hl
  have hown : s.vm.findClass RX8 = some m.cls := hown
  have hw_192 := hts (.constantLong RX8 192 (114784769370228)) (List.mem_of_getElem? (i := 1) rfl)
  have hw_194 := hts (.constantLong RX8 194 (427071792498)) (List.mem_of_getElem? (i := 2) rfl)
  have hw_196 := hts (.constantLong RX8 196 (1701078885)) (List.mem_of_getElem? (i := 3) rfl)
  have hw_198 := hts (.constantLong RX8 198 (495672452197)) (List.mem_of_getElem? (i := 4) rfl)
  have hw_200 := hts (.constantLong RX8 200 (482855580787)) (List.mem_of_getElem? (i := 5) rfl)
  have fl_176 := hts (.fieldLink RX8 176 "PlanningBenchModel" "wordEnd" "I") (List.mem_of_getElem? (i := 7) rfl)
  have hin_wsX80 : ∀ w ∈ wsX80, w ∈ wsX8_item := fun _ h => List.mem_cons_of_mem _ (List.mem_append_right _ h)
  have fl_167 := hts (.fieldLink RX8 167 "PlanningBenchModel" "at" "I") (List.mem_of_getElem? (i := 8) rfl)
  have fl_182 := hts (.fieldLink RX8 182 "PlanningBenchModel" "number" "I") (List.mem_of_getElem? (i := 10) rfl)
  have fl_170 := hts (.fieldLink RX8 170 "PlanningBenchModel" "size" "I") (List.mem_of_getElem? (i := 11) rfl)
  have hw_202 := hts (.constantLong RX8 202 (7697253)) (List.mem_of_getElem? (i := 6) rfl)
  have fl_39 := hts (.fieldLink RX8 39 "PlanningBenchModel" "zonePlots" "[I") (List.mem_of_getElem? (i := 14) rfl)
  have fl_23 := hts (.fieldLink RX8 23 "PlanningBenchModel" "text" "[B") (List.mem_of_getElem? (i := 12) rfl)
  have fl_42 := hts (.fieldLink RX8 42 "PlanningBenchModel" "zoneUses" "[I") (List.mem_of_getElem? (i := 13) rfl)
  have fl_45 := hts (.fieldLink RX8 45 "PlanningBenchModel" "zoneNumber" "[I") (List.mem_of_getElem? (i := 9) rfl)
  refine lv_aload_n hx hb dX8_item_0 rfl (lv_at hl 0 rfl) ?_
  have hb_1 := we_in (t := (f 10)) (sz := sz) (i := i) (by omega)
  refine mp_calll (va_runV (As := []) (rest := []) ⟨hx, hb, hml, hown, hts⟩ (c_X8_word l X G A B h ad n f sz i hsz (by omega) hi (by omega)) (cwV 0 hts gX8_item_X8_word rfl rfl rfl (by decide +kernel) ⟨Nat.le_of_ble_eq_true rfl, Nat.le_of_ble_eq_true rfl⟩) (mp_preV hC hS hM (md_recv hC hM)) rfl rfl hl.1 rfl (lv_room (Nat.le_of_ble_eq_true rfl)) dX8_item_1 ⟨Nat.le_of_ble_eq_true rfl, Nat.le_of_ble_eq_true rfl⟩) hS (fun H locs hM hS => ?_)
  refine lv_lstore_n (lv' := [(2, .long (wd (f 10) sz i)), (0, .ref h), (1, .int (nI z))]) hx hb dX8_item_4 rfl hl (by decide) rfl (fun ls hl => ?_)
  refine lv_lload_n hx hb dX8_item_5 rfl (lv_at hl 0 rfl) ?_
  refine lv_ldc2 (v := 114784769370228) hx hb hown hw_192 dX8_item_6 ?_
  refine W.lcmp hx hb dX8_item_9 ?_
  refine lv_if_ne (tgt := 17) hx hb dX8_item_10 (by decide) (fun w0 => ?_) (fun w0 => ?_)
  · have w0 := fun q => w0 ((lg_cmp_eq _ _).mpr q)
    refine lv_lload_n hx hb dX8_item_17 rfl (lv_at hl 0 rfl) ?_
    refine lv_ldc2 (v := 427071792498) hx hb hown hw_194 dX8_item_18 ?_
    refine W.lcmp hx hb dX8_item_21 ?_
    refine lv_if_ne (tgt := 29) hx hb dX8_item_22 (by decide) (fun w1 => ?_) (fun w1 => ?_)
    · have w1 := fun q => w1 ((lg_cmp_eq _ _).mpr q)
      refine lv_lload_n hx hb dX8_item_29 rfl (lv_at hl 0 rfl) ?_
      refine lv_ldc2 (v := 1701078885) hx hb hown hw_196 dX8_item_30 ?_
      refine W.lcmp hx hb dX8_item_33 ?_
      refine lv_if_ne (tgt := 41) hx hb dX8_item_34 (by decide) (fun w2 => ?_) (fun w2 => ?_)
      · have w2 := fun q => w2 ((lg_cmp_eq _ _).mpr q)
        refine lv_lload_n hx hb dX8_item_41 rfl (lv_at hl 0 rfl) ?_
        refine lv_ldc2 (v := 495672452197) hx hb hown hw_198 dX8_item_42 ?_
        refine W.lcmp hx hb dX8_item_45 ?_
        refine lv_if_ne (tgt := 53) hx hb dX8_item_46 (by decide) (fun w3 => ?_) (fun w3 => ?_)
        · have w3 := fun q => w3 ((lg_cmp_eq _ _).mpr q)
          refine lv_iconst (v := (4 : Int32)) hx hb dX8_item_53 (by decide) ?_
          refine lv_istore (lv' := [(4, .int (4 : Int32)), (2, .long (wd (f 10) sz i)), (0, .ref h), (1, .int (nI z))]) hx hb dX8_item_54 hl (by decide) rfl (fun ls hl => ?_)
          refine lv_iload hx hb dX8_item_56 (lv_at hl 0 rfl) ?_
          refine lv_iconst (v := (4 : Int32)) hx hb dX8_item_58 (by decide) ?_
          refine lv_icmp_ne (tgt := 80) hx hb dX8_item_59 (by decide) (fun c_2 => ?_) (fun c_2 => ?_)
          · have c_2 := c_2
            exact absurd c_2 (by decide)
          · have c_2 := c_2
            refine lv_lload_n hx hb dX8_item_62 rfl (lv_at hl 1 rfl) ?_
            refine lv_ldc2 (v := 482855580787) hx hb hown hw_200 dX8_item_63 ?_
            refine W.lcmp hx hb dX8_item_66 ?_
            refine lv_if_eq (tgt := 80) hx hb dX8_item_67 (by decide) (fun w5 => ?_) (fun w5 => ?_)
            · have w5 := (lg_cmp_eq _ _).mp w5
              refine lv_aload_n hx hb dX8_item_80 rfl (lv_at hl 2 rfl) ?_
              refine lv_aload_n hx hb dX8_item_81 rfl (lv_at hl 2 rfl) ?_
              refine md_geti hx hb hts hin_wsX80 hown hC hM 21 (by decide) rfl fl_176 dX8_item_82 ?_
              refine mp_top (nI (we (f 10) sz i)) rfl ?_
              refine md_puti hx hb hts hin_wsX80 hown hC hM hS 13 (by decide) rfl rfl rfl fl_167 dX8_item_85 (fun H locs hM hS => ?_)
              refine lv_iload hx hb dX8_item_88 (lv_at hl 0 rfl) ?_
              refine lv_iconst (v := (4 : Int32)) hx hb dX8_item_90 (by decide) ?_
              refine lv_icmp_ge (tgt := 125) hx hb dX8_item_91 (by decide) (fun c_3 => ?_) (fun c_3 => ?_)
              · have c_3 := c_3
                refine lv_iconst (v := (0 : Int32)) hx hb dX8_item_125 (by decide) ?_
                refine lv_istore (lv' := [(5, .int (0 : Int32)), (4, .int (4 : Int32)), (2, .long (wd (f 10) sz i)), (0, .ref h), (1, .int (nI z))]) hx hb dX8_item_126 hl (by decide) rfl (fun ls hl => ?_)
                refine lv_iconst (v := (1 : Int32)) hx hb dX8_item_128 (by decide) ?_
                refine lv_istore (lv' := [(6, .int (1 : Int32)), (5, .int (0 : Int32)), (4, .int (4 : Int32)), (2, .long (wd (f 10) sz i)), (0, .ref h), (1, .int (nI z))]) hx hb dX8_item_129 hl (by decide) rfl (fun ls hl => ?_)
                refine lv_iload hx hb dX8_item_131 (lv_at hl 0 rfl) ?_
                refine lv_if_eq (tgt := 205) hx hb dX8_item_133 (by decide) (fun c_4 => ?_) (fun c_4 => ?_)
                · have c_4 := c_4
                  exact absurd c_4 (by decide)
                · have c_4 := c_4
                  have LP136_5 : ∀ (kk : Nat) (j : Nat) (b : Int32) (fu : Nat) (n3 : Nat → Int32) (ls : Array Slot) (H : Heap) (locs : List Loc), sz - j < kk → j ≤ sz → sz - j < fu → n3 13 = nI j → n3 12 = nI sz → nOK n n3 → stp (f 10) sz 601 (we (f 10) sz i) 0 = stp (f 10) sz fu j b → mp_P G.1 A (md_M G B h ad n3 f) H → va_S A s.heap H locs → lv_has ls 7 [(0, .ref h), (1, .int (nI z)), (2, .long (wd (f 10) sz i)), (5, .int b)] → W p l e rmX8_item s m ([.ref h, .int (nI z)] : List Value).toArray below meth c H locs 0 0 (MQ below (mp_Q G.1 A (fun v1 M1 => ∃ n2 f2, M1 = md_M G B h ad n2 f2 ∧ v1 = some (.int (bI (itemS (f 10) sz i r).1)) ∧ n2 13 = nI (itemS (f 10) sz i r).2.1 ∧ nOK n n2 ∧ zOK f f2 z (itemS (f 10) sz i r).2.2)) ([.ref h, .int (nI z)] : List Value).toArray s 0 0 A) (F0 m 136 ls []) := by
                    intro kk
                    induction kk with
                    | zero => intro j b fu n3 ls H locs hk; exact absurd hk (Nat.not_lt_zero _)
                    | succ kk ih =>
                      intro j b fu n3 ls H locs hk hj hfl h13 h12 hn3 hst hM hS hl
                      have hfu : fu = (fu - 1) + 1 := by omega
                      refine lv_aload_n hx hb dX8_item_136 rfl (lv_at hl 0 rfl) ?_
                      have hb_5 := tn_in (t := (f 10)) (sz := sz) (i := j) (by omega)
                      refine mp_calli (va_runV (As := []) (rest := []) ⟨hx, hb, hml, hown, hts⟩ (c_X8_takesNumber l X G A B h ad n3 f sz j h12 (by omega) h13 (by omega)) (cwV 0 hts gX8_item_X8_takesNumber rfl rfl rfl (by decide +kernel) ⟨Nat.le_of_ble_eq_true rfl, Nat.le_of_ble_eq_true rfl⟩) (mp_preV hC hS hM (md_recv hC hM)) rfl rfl hl.1 rfl (lv_room (Nat.le_of_ble_eq_true rfl)) dX8_item_137 ⟨Nat.le_of_ble_eq_true rfl, Nat.le_of_ble_eq_true rfl⟩) hS (fun H locs hM hS => ?_)
                      refine lv_if_ne (tgt := 145) hx hb dX8_item_140 (by decide) (fun c2 => ?_) (fun c2 => ?_)
                      · have c2 : (pB (tnP (f 10) sz j)) = true := bI_1.mp c2
                        have hpr : j < tnN (f 10) sz j := by have q := pB_iff.mp c2; have q2 := dz_in (t := f 10) (sz := sz) (i := j) (by omega); rw [tnN, c2, if_pos rfl]; have := q.1; omega
                        refine lv_aload_n hx hb dX8_item_145 rfl (lv_at hl 0 rfl) ?_
                        refine md_geti hx hb hts hin_wsX80 hown hC hM 22 (by decide) rfl fl_182 dX8_item_146 ?_
                        refine mp_top (tnV (f 10) sz j) rfl ?_
                        refine lv_bipush (v := (16 : Int32)) hx hb dX8_item_149 (by decide) ?_
                        refine lv_icmp_ge (tgt := 165) hx hb dX8_item_151 (by decide) (fun c3 => ?_) (fun c3 => ?_)
                        · have c3 := c3
                          refine lv_aload_n hx hb dX8_item_165 rfl (lv_at hl 0 rfl) ?_
                          have hb_6 := tb_in (t := (f 10)) (sz := sz) (i := tnN (f 10) sz j) (by omega)
                          refine mp_callv (va_runV (As := []) (rest := []) ⟨hx, hb, hml, hown, hts⟩ (c_X8_blanks l X G A B h ad (upd (upd n3 13 (nI (tnN (f 10) sz j))) 22 (tnV (f 10) sz j)) f sz (tnN (f 10) sz j) (by exact h12) (by omega) rfl (by omega)) (cwV 0 hts gX8_item_X8_blanks rfl rfl rfl (by decide +kernel) ⟨Nat.le_of_ble_eq_true rfl, Nat.le_of_ble_eq_true rfl⟩) (mp_preV hC hS hM (md_recv hC hM)) rfl rfl hl.1 rfl (lv_room (Nat.le_of_ble_eq_true rfl)) dX8_item_166 ⟨Nat.le_of_ble_eq_true rfl, Nat.le_of_ble_eq_true rfl⟩) hS (fun H locs hM hS => ?_)
                          refine lv_aload_n hx hb dX8_item_169 rfl (lv_at hl 0 rfl) ?_
                          refine md_geti hx hb hts hin_wsX80 hown hC hM 13 (by decide) rfl fl_167 dX8_item_170 ?_
                          refine mp_top (nI (tb (f 10) sz (tnN (f 10) sz j))) rfl ?_
                          refine lv_aload_n hx hb dX8_item_173 rfl (lv_at hl 0 rfl) ?_
                          refine md_geti hx hb hts hin_wsX80 hown hC hM 12 (by decide) rfl fl_170 dX8_item_174 ?_
                          refine mp_top (n3 12) rfl ?_
                          refine mp_top (nI sz) h12 ?_
                          refine lv_icmp_ge (tgt := 199) hx hb dX8_item_177 (by decide) (fun c4 => ?_) (fun c4 => ?_)
                          · have c4 := nn_le (a := sz) (b := tb (f 10) sz (tnN (f 10) sz j)) (by omega) (by omega) c4
                            refine lv_iconst (v := (0 : Int32)) hx hb dX8_item_199 (by decide) ?_
                            refine lv_istore (lv' := [(6, .int (0 : Int32)), (0, .ref h), (1, .int (nI z)), (2, .long (wd (f 10) sz i)), (5, .int b)]) hx hb dX8_item_200 hl (by decide) rfl (fun ls hl => ?_)
                            refine lv_goto (tgt := 131) hx hb dX8_item_202 (by decide) ?_
                            refine lv_iload hx hb dX8_item_131 (lv_at hl 0 rfl) ?_
                            refine lv_if_eq (tgt := 205) hx hb dX8_item_133 (by decide) (fun c_7 => ?_) (fun c_7 => ?_)
                            · have c_7 := c_7
                              refine lv_lload_n hx hb dX8_item_205 rfl (lv_at hl 3 rfl) ?_
                              refine lv_ldc2 (v := 7697253) hx hb hown hw_202 dX8_item_206 ?_
                              refine W.lcmp hx hb dX8_item_209 ?_
                              refine lv_if_ne (tgt := 224) hx hb dX8_item_210 (by decide) (fun c_8 => ?_) (fun c_8 => ?_)
                              · have c_8 := fun q => c_8 ((lg_cmp_eq _ _).mpr q)
                                refine lv_aload_n hx hb dX8_item_224 rfl (lv_at hl 1 rfl) ?_
                                refine md_getr hx hb hts hin_wsX80 hown hC hM 18 (by decide) rfl fl_39 dX8_item_225 ?_
                                refine lv_iload_n hx hb dX8_item_228 rfl (lv_at hl 2 rfl) ?_
                                refine lv_iload hx hb dX8_item_229 (lv_at hl 4 rfl) ?_
                                refine md_iast hx hb hC hM hS 18 rfl (j := z) (by omega) (by decide) dX8_item_231 (fun H locs hM hS => ?_)
                                have hM : mp_P G.1 A (md_M G B h ad (upd (upd (upd n3 13 (nI (tnN (f 10) sz j))) 22 (tnV (f 10) sz j)) 13 (nI (tb (f 10) sz (tnN (f 10) sz j)))) (va_up f 18 (upd (f 18) z b))) H := hM
                                refine lv_aload_n hx hb dX8_item_232 rfl (lv_at hl 1 rfl) ?_
                                refine lv_bipush (v := (59 : Int32)) hx hb dX8_item_233 (by decide) ?_
                                have hb_9 := tk_in (t := (f 10)) (sz := sz) (i := tb (f 10) sz (tnN (f 10) sz j)) (59 : Int32) (by omega)
                                have hb_10 := tb_in (t := (f 10)) (sz := sz) (i := tb (f 10) sz (tnN (f 10) sz j)) (by omega)
                                refine mp_calli (va_runV (As := [.int (59 : Int32)]) (rest := []) ⟨hx, hb, hml, hown, hts⟩ (c_X8_takes l X G A B h ad (upd (upd (upd n3 13 (nI (tnN (f 10) sz j))) 22 (tnV (f 10) sz j)) 13 (nI (tb (f 10) sz (tnN (f 10) sz j)))) (va_up f 18 (upd (f 18) z b)) sz (tb (f 10) sz (tnN (f 10) sz j)) h12 (by omega) rfl (by omega) (59 : Int32)) (cwV 1 hts gX8_item_X8_takes rfl rfl rfl (by decide +kernel) ⟨Nat.le_of_ble_eq_true rfl, Nat.le_of_ble_eq_true rfl⟩) (mp_preV hC hS hM (md_recv hC hM)) rfl rfl hl.1 rfl (lv_room (Nat.le_of_ble_eq_true rfl)) dX8_item_235 ⟨Nat.le_of_ble_eq_true rfl, Nat.le_of_ble_eq_true rfl⟩) hS (fun H locs hM hS => ?_)
                                exact mp_zret hx hb hr hlocks (Nat.le_of_ble_eq_true rfl) (Nat.le_of_ble_eq_true rfl) hM hS dX8_item_238 (bI_nar _) (have ek : itK (wd (f 10) sz i) = 5 := (by rw [itK, if_neg w0, if_neg w1, if_neg w2, if_neg w3, if_pos w5]); have X : stp (f 10) sz 601 (we (f 10) sz i) 0 = (true, tb (f 10) sz (tnN (f 10) sz j), b) := (by rw [hst, hfu, stp, c2, if_pos rfl, pB_f (fun z => absurd z.1 (by omega)), if_neg (by decide), bt1, if_neg (i_nlt.mpr c3)]); have E : itemS (f 10) sz i r = (pB (tkP (f 10) sz (tb (f 10) sz (tnN (f 10) sz j)) 59), tkN (f 10) sz (tb (f 10) sz (tnN (f 10) sz j)) 59, (b, r.2.1, r.2.2)) := (by rw [itemS, if_neg (by rw [ek]; decide), if_neg (by rw [ek]; decide), X, if_pos rfl, if_neg (by rw [ek]; decide)]); ⟨_, _, rfl, by rw [E] <;> rfl, by rw [E] <;> rfl, fun k h1 h2 h3 => (by simp [upd, h1, h2, h3]; exact hn3 k h1 h2 h3), by rw [E]; exact zOK_plots hz _⟩)
                              · have c_8 := (lg_cmp_eq _ _).mp c_8
                                exact absurd c_8 (fun z => absurd (z.symm.trans w5) (by decide))
                            · have c_7 := c_7
                              exact absurd c_7 (by decide)
                          · have c4 := nn_nle (a := sz) (b := tb (f 10) sz (tnN (f 10) sz j)) (by omega) (by omega) c4
                            refine lv_aload_n hx hb dX8_item_180 rfl (lv_at hl 0 rfl) ?_
                            refine md_getr hx hb hts hin_wsX80 hown hC hM 10 (by decide) rfl fl_23 dX8_item_181 ?_
                            refine lv_aload_n hx hb dX8_item_184 rfl (lv_at hl 0 rfl) ?_
                            refine md_geti hx hb hts hin_wsX80 hown hC hM 13 (by decide) rfl fl_167 dX8_item_185 ?_
                            refine mp_top (nI (tb (f 10) sz (tnN (f 10) sz j))) rfl ?_
                            refine md_bald hx hb hC hM 10 rfl (j := tb (f 10) sz (tnN (f 10) sz j)) (by omega) (by decide) dX8_item_188 ?_
                            refine mp_calli (va_runS (As := [.int (f 10 (tb (f 10) sz (tnN (f 10) sz j)))]) (rest := []) ⟨hx, hb, hml, hown, hts⟩ (c_X8_isDigit l X G A (md_M G B h ad (upd (upd (upd n3 13 (nI (tnN (f 10) sz j))) 22 (tnV (f 10) sz j)) 13 (nI (tb (f 10) sz (tnN (f 10) sz j)))) f) (f 10 (tb (f 10) sz (tnN (f 10) sz j)))) (va_cwS 1 hts gX8_item_X8_isDigit rfl rfl rfl (by decide +kernel) ⟨Nat.le_of_ble_eq_true rfl, Nat.le_of_ble_eq_true rfl⟩) (mp_preS hC hS hM) rfl rfl hl.1 rfl (lv_room (Nat.le_of_ble_eq_true rfl)) dX8_item_189 ⟨Nat.le_of_ble_eq_true rfl, Nat.le_of_ble_eq_true rfl⟩) hS (fun H locs hM hS => ?_)
                            refine lv_if_eq (tgt := 199) hx hb dX8_item_192 (by decide) (fun c5 => ?_) (fun c5 => ?_)
                            · have c5 : (pB (md_in (f 10 (tb (f 10) sz (tnN (f 10) sz j))) 48 57)) = false := bI_0.mp c5
                              refine lv_iconst (v := (0 : Int32)) hx hb dX8_item_199 (by decide) ?_
                              refine lv_istore (lv' := [(6, .int (0 : Int32)), (0, .ref h), (1, .int (nI z)), (2, .long (wd (f 10) sz i)), (5, .int b)]) hx hb dX8_item_200 hl (by decide) rfl (fun ls hl => ?_)
                              refine lv_goto (tgt := 131) hx hb dX8_item_202 (by decide) ?_
                              refine lv_iload hx hb dX8_item_131 (lv_at hl 0 rfl) ?_
                              refine lv_if_eq (tgt := 205) hx hb dX8_item_133 (by decide) (fun c_11 => ?_) (fun c_11 => ?_)
                              · have c_11 := c_11
                                refine lv_lload_n hx hb dX8_item_205 rfl (lv_at hl 3 rfl) ?_
                                refine lv_ldc2 (v := 7697253) hx hb hown hw_202 dX8_item_206 ?_
                                refine W.lcmp hx hb dX8_item_209 ?_
                                refine lv_if_ne (tgt := 224) hx hb dX8_item_210 (by decide) (fun c_12 => ?_) (fun c_12 => ?_)
                                · have c_12 := fun q => c_12 ((lg_cmp_eq _ _).mpr q)
                                  refine lv_aload_n hx hb dX8_item_224 rfl (lv_at hl 1 rfl) ?_
                                  refine md_getr hx hb hts hin_wsX80 hown hC hM 18 (by decide) rfl fl_39 dX8_item_225 ?_
                                  refine lv_iload_n hx hb dX8_item_228 rfl (lv_at hl 2 rfl) ?_
                                  refine lv_iload hx hb dX8_item_229 (lv_at hl 4 rfl) ?_
                                  refine md_iast hx hb hC hM hS 18 rfl (j := z) (by omega) (by decide) dX8_item_231 (fun H locs hM hS => ?_)
                                  have hM : mp_P G.1 A (md_M G B h ad (upd (upd (upd n3 13 (nI (tnN (f 10) sz j))) 22 (tnV (f 10) sz j)) 13 (nI (tb (f 10) sz (tnN (f 10) sz j)))) (va_up f 18 (upd (f 18) z b))) H := hM
                                  refine lv_aload_n hx hb dX8_item_232 rfl (lv_at hl 1 rfl) ?_
                                  refine lv_bipush (v := (59 : Int32)) hx hb dX8_item_233 (by decide) ?_
                                  have hb_13 := tk_in (t := (f 10)) (sz := sz) (i := tb (f 10) sz (tnN (f 10) sz j)) (59 : Int32) (by omega)
                                  have hb_14 := tb_in (t := (f 10)) (sz := sz) (i := tb (f 10) sz (tnN (f 10) sz j)) (by omega)
                                  refine mp_calli (va_runV (As := [.int (59 : Int32)]) (rest := []) ⟨hx, hb, hml, hown, hts⟩ (c_X8_takes l X G A B h ad (upd (upd (upd n3 13 (nI (tnN (f 10) sz j))) 22 (tnV (f 10) sz j)) 13 (nI (tb (f 10) sz (tnN (f 10) sz j)))) (va_up f 18 (upd (f 18) z b)) sz (tb (f 10) sz (tnN (f 10) sz j)) h12 (by omega) rfl (by omega) (59 : Int32)) (cwV 1 hts gX8_item_X8_takes rfl rfl rfl (by decide +kernel) ⟨Nat.le_of_ble_eq_true rfl, Nat.le_of_ble_eq_true rfl⟩) (mp_preV hC hS hM (md_recv hC hM)) rfl rfl hl.1 rfl (lv_room (Nat.le_of_ble_eq_true rfl)) dX8_item_235 ⟨Nat.le_of_ble_eq_true rfl, Nat.le_of_ble_eq_true rfl⟩) hS (fun H locs hM hS => ?_)
                                  exact mp_zret hx hb hr hlocks (Nat.le_of_ble_eq_true rfl) (Nat.le_of_ble_eq_true rfl) hM hS dX8_item_238 (bI_nar _) (have ek : itK (wd (f 10) sz i) = 5 := (by rw [itK, if_neg w0, if_neg w1, if_neg w2, if_neg w3, if_pos w5]); have X : stp (f 10) sz 601 (we (f 10) sz i) 0 = (true, tb (f 10) sz (tnN (f 10) sz j), b) := (by rw [hst, hfu, stp, c2, if_pos rfl, pB_f (fun z => pB_not.mp c5 z.2), if_neg (by decide), bt1, if_neg (i_nlt.mpr c3)]); have E : itemS (f 10) sz i r = (pB (tkP (f 10) sz (tb (f 10) sz (tnN (f 10) sz j)) 59), tkN (f 10) sz (tb (f 10) sz (tnN (f 10) sz j)) 59, (b, r.2.1, r.2.2)) := (by rw [itemS, if_neg (by rw [ek]; decide), if_neg (by rw [ek]; decide), X, if_pos rfl, if_neg (by rw [ek]; decide)]); ⟨_, _, rfl, by rw [E] <;> rfl, by rw [E] <;> rfl, fun k h1 h2 h3 => (by simp [upd, h1, h2, h3]; exact hn3 k h1 h2 h3), by rw [E]; exact zOK_plots hz _⟩)
                                · have c_12 := (lg_cmp_eq _ _).mp c_12
                                  exact absurd c_12 (fun z => absurd (z.symm.trans w5) (by decide))
                              · have c_11 := c_11
                                exact absurd c_11 (by decide)
                            · have c5 : (pB (md_in (f 10 (tb (f 10) sz (tnN (f 10) sz j))) 48 57)) = true := bI_1.mp c5
                              refine lv_iconst (v := (1 : Int32)) hx hb dX8_item_195 (by decide) ?_
                              refine lv_goto (tgt := 200) hx hb dX8_item_196 (by decide) ?_
                              refine lv_istore (lv' := [(6, .int (1 : Int32)), (0, .ref h), (1, .int (nI z)), (2, .long (wd (f 10) sz i)), (5, .int b)]) hx hb dX8_item_200 hl (by decide) rfl (fun ls hl => ?_)
                              refine lv_goto (tgt := 131) hx hb dX8_item_202 (by decide) ?_
                              refine lv_iload hx hb dX8_item_131 (lv_at hl 0 rfl) ?_
                              refine lv_if_eq (tgt := 205) hx hb dX8_item_133 (by decide) (fun c_15 => ?_) (fun c_15 => ?_)
                              · have c_15 := c_15
                                exact absurd c_15 (by decide)
                              · have c_15 := c_15
                                exact ih (tb (f 10) sz (tnN (f 10) sz j)) (b) (fu - 1) (upd (upd (upd n3 13 (nI (tnN (f 10) sz j))) 22 (tnV (f 10) sz j)) 13 (nI (tb (f 10) sz (tnN (f 10) sz j)))) ls _ _ (by omega) (by omega) (by omega) rfl h12 (fun k h1 h2 h3 => (by simp [upd, h1, h2, h3]; exact hn3 k h1 h2 h3)) (by rw [hst, hfu, stp, c2, if_pos rfl, pB_t ⟨c4, pB_iff.mp c5⟩, if_pos rfl, bt1, if_neg (i_nlt.mpr c3)]; rfl) hM hS (lv_sub hl [1, 2, 3, 4] rfl)
                        · have c3 := c3
                          refine lv_iload hx hb dX8_item_154 (lv_at hl 3 rfl) ?_
                          refine lv_iconst (v := (1 : Int32)) hx hb dX8_item_156 (by decide) ?_
                          refine lv_aload_n hx hb dX8_item_157 rfl (lv_at hl 0 rfl) ?_
                          refine md_geti hx hb hts hin_wsX80 hown hC hM 22 (by decide) rfl fl_182 dX8_item_158 ?_
                          refine mp_top (tnV (f 10) sz j) rfl ?_
                          refine lv_ishl hx hb dX8_item_161 ?_
                          refine lv_ior hx hb dX8_item_162 ?_
                          refine lv_istore (lv' := [(5, .int (b ||| ((1 : Int32) <<< ((tnV (f 10) sz j) &&& 31)))), (0, .ref h), (1, .int (nI z)), (2, .long (wd (f 10) sz i))]) hx hb dX8_item_163 hl (by decide) rfl (fun ls hl => ?_)
                          refine lv_aload_n hx hb dX8_item_165 rfl (lv_at hl 1 rfl) ?_
                          have hb_16 := tb_in (t := (f 10)) (sz := sz) (i := tnN (f 10) sz j) (by omega)
                          refine mp_callv (va_runV (As := []) (rest := []) ⟨hx, hb, hml, hown, hts⟩ (c_X8_blanks l X G A B h ad (upd (upd n3 13 (nI (tnN (f 10) sz j))) 22 (tnV (f 10) sz j)) f sz (tnN (f 10) sz j) (by exact h12) (by omega) rfl (by omega)) (cwV 0 hts gX8_item_X8_blanks rfl rfl rfl (by decide +kernel) ⟨Nat.le_of_ble_eq_true rfl, Nat.le_of_ble_eq_true rfl⟩) (mp_preV hC hS hM (md_recv hC hM)) rfl rfl hl.1 rfl (lv_room (Nat.le_of_ble_eq_true rfl)) dX8_item_166 ⟨Nat.le_of_ble_eq_true rfl, Nat.le_of_ble_eq_true rfl⟩) hS (fun H locs hM hS => ?_)
                          refine lv_aload_n hx hb dX8_item_169 rfl (lv_at hl 1 rfl) ?_
                          refine md_geti hx hb hts hin_wsX80 hown hC hM 13 (by decide) rfl fl_167 dX8_item_170 ?_
                          refine mp_top (nI (tb (f 10) sz (tnN (f 10) sz j))) rfl ?_
                          refine lv_aload_n hx hb dX8_item_173 rfl (lv_at hl 1 rfl) ?_
                          refine md_geti hx hb hts hin_wsX80 hown hC hM 12 (by decide) rfl fl_170 dX8_item_174 ?_
                          refine mp_top (n3 12) rfl ?_
                          refine mp_top (nI sz) h12 ?_
                          refine lv_icmp_ge (tgt := 199) hx hb dX8_item_177 (by decide) (fun c4 => ?_) (fun c4 => ?_)
                          · have c4 := nn_le (a := sz) (b := tb (f 10) sz (tnN (f 10) sz j)) (by omega) (by omega) c4
                            refine lv_iconst (v := (0 : Int32)) hx hb dX8_item_199 (by decide) ?_
                            refine lv_istore (lv' := [(6, .int (0 : Int32)), (5, .int (b ||| ((1 : Int32) <<< ((tnV (f 10) sz j) &&& 31)))), (0, .ref h), (1, .int (nI z)), (2, .long (wd (f 10) sz i))]) hx hb dX8_item_200 hl (by decide) rfl (fun ls hl => ?_)
                            refine lv_goto (tgt := 131) hx hb dX8_item_202 (by decide) ?_
                            refine lv_iload hx hb dX8_item_131 (lv_at hl 0 rfl) ?_
                            refine lv_if_eq (tgt := 205) hx hb dX8_item_133 (by decide) (fun c_17 => ?_) (fun c_17 => ?_)
                            · have c_17 := c_17
                              refine lv_lload_n hx hb dX8_item_205 rfl (lv_at hl 4 rfl) ?_
                              refine lv_ldc2 (v := 7697253) hx hb hown hw_202 dX8_item_206 ?_
                              refine W.lcmp hx hb dX8_item_209 ?_
                              refine lv_if_ne (tgt := 224) hx hb dX8_item_210 (by decide) (fun c_18 => ?_) (fun c_18 => ?_)
                              · have c_18 := fun q => c_18 ((lg_cmp_eq _ _).mpr q)
                                refine lv_aload_n hx hb dX8_item_224 rfl (lv_at hl 2 rfl) ?_
                                refine md_getr hx hb hts hin_wsX80 hown hC hM 18 (by decide) rfl fl_39 dX8_item_225 ?_
                                refine lv_iload_n hx hb dX8_item_228 rfl (lv_at hl 3 rfl) ?_
                                refine lv_iload hx hb dX8_item_229 (lv_at hl 1 rfl) ?_
                                refine md_iast hx hb hC hM hS 18 rfl (j := z) (by omega) (by decide) dX8_item_231 (fun H locs hM hS => ?_)
                                have hM : mp_P G.1 A (md_M G B h ad (upd (upd (upd n3 13 (nI (tnN (f 10) sz j))) 22 (tnV (f 10) sz j)) 13 (nI (tb (f 10) sz (tnN (f 10) sz j)))) (va_up f 18 (upd (f 18) z (b ||| ((1 : Int32) <<< ((tnV (f 10) sz j) &&& 31)))))) H := hM
                                refine lv_aload_n hx hb dX8_item_232 rfl (lv_at hl 2 rfl) ?_
                                refine lv_bipush (v := (59 : Int32)) hx hb dX8_item_233 (by decide) ?_
                                have hb_19 := tk_in (t := (f 10)) (sz := sz) (i := tb (f 10) sz (tnN (f 10) sz j)) (59 : Int32) (by omega)
                                have hb_20 := tb_in (t := (f 10)) (sz := sz) (i := tb (f 10) sz (tnN (f 10) sz j)) (by omega)
                                refine mp_calli (va_runV (As := [.int (59 : Int32)]) (rest := []) ⟨hx, hb, hml, hown, hts⟩ (c_X8_takes l X G A B h ad (upd (upd (upd n3 13 (nI (tnN (f 10) sz j))) 22 (tnV (f 10) sz j)) 13 (nI (tb (f 10) sz (tnN (f 10) sz j)))) (va_up f 18 (upd (f 18) z (b ||| ((1 : Int32) <<< ((tnV (f 10) sz j) &&& 31))))) sz (tb (f 10) sz (tnN (f 10) sz j)) h12 (by omega) rfl (by omega) (59 : Int32)) (cwV 1 hts gX8_item_X8_takes rfl rfl rfl (by decide +kernel) ⟨Nat.le_of_ble_eq_true rfl, Nat.le_of_ble_eq_true rfl⟩) (mp_preV hC hS hM (md_recv hC hM)) rfl rfl hl.1 rfl (lv_room (Nat.le_of_ble_eq_true rfl)) dX8_item_235 ⟨Nat.le_of_ble_eq_true rfl, Nat.le_of_ble_eq_true rfl⟩) hS (fun H locs hM hS => ?_)
                                exact mp_zret hx hb hr hlocks (Nat.le_of_ble_eq_true rfl) (Nat.le_of_ble_eq_true rfl) hM hS dX8_item_238 (bI_nar _) (have ek : itK (wd (f 10) sz i) = 5 := (by rw [itK, if_neg w0, if_neg w1, if_neg w2, if_neg w3, if_pos w5]); have X : stp (f 10) sz 601 (we (f 10) sz i) 0 = (true, tb (f 10) sz (tnN (f 10) sz j), b ||| ((1 : Int32) <<< ((tnV (f 10) sz j) &&& 31))) := (by rw [hst, hfu, stp, c2, if_pos rfl, pB_f (fun z => absurd z.1 (by omega)), if_neg (by decide), bt1, if_pos (i_nle.mp c3)]); have E : itemS (f 10) sz i r = (pB (tkP (f 10) sz (tb (f 10) sz (tnN (f 10) sz j)) 59), tkN (f 10) sz (tb (f 10) sz (tnN (f 10) sz j)) 59, (b ||| ((1 : Int32) <<< ((tnV (f 10) sz j) &&& 31)), r.2.1, r.2.2)) := (by rw [itemS, if_neg (by rw [ek]; decide), if_neg (by rw [ek]; decide), X, if_pos rfl, if_neg (by rw [ek]; decide)]); ⟨_, _, rfl, by rw [E] <;> rfl, by rw [E] <;> rfl, fun k h1 h2 h3 => (by simp [upd, h1, h2, h3]; exact hn3 k h1 h2 h3), by rw [E]; exact zOK_plots hz _⟩)
                              · have c_18 := (lg_cmp_eq _ _).mp c_18
                                exact absurd c_18 (fun z => absurd (z.symm.trans w5) (by decide))
                            · have c_17 := c_17
                              exact absurd c_17 (by decide)
                          · have c4 := nn_nle (a := sz) (b := tb (f 10) sz (tnN (f 10) sz j)) (by omega) (by omega) c4
                            refine lv_aload_n hx hb dX8_item_180 rfl (lv_at hl 1 rfl) ?_
                            refine md_getr hx hb hts hin_wsX80 hown hC hM 10 (by decide) rfl fl_23 dX8_item_181 ?_
                            refine lv_aload_n hx hb dX8_item_184 rfl (lv_at hl 1 rfl) ?_
                            refine md_geti hx hb hts hin_wsX80 hown hC hM 13 (by decide) rfl fl_167 dX8_item_185 ?_
                            refine mp_top (nI (tb (f 10) sz (tnN (f 10) sz j))) rfl ?_
                            refine md_bald hx hb hC hM 10 rfl (j := tb (f 10) sz (tnN (f 10) sz j)) (by omega) (by decide) dX8_item_188 ?_
                            refine mp_calli (va_runS (As := [.int (f 10 (tb (f 10) sz (tnN (f 10) sz j)))]) (rest := []) ⟨hx, hb, hml, hown, hts⟩ (c_X8_isDigit l X G A (md_M G B h ad (upd (upd (upd n3 13 (nI (tnN (f 10) sz j))) 22 (tnV (f 10) sz j)) 13 (nI (tb (f 10) sz (tnN (f 10) sz j)))) f) (f 10 (tb (f 10) sz (tnN (f 10) sz j)))) (va_cwS 1 hts gX8_item_X8_isDigit rfl rfl rfl (by decide +kernel) ⟨Nat.le_of_ble_eq_true rfl, Nat.le_of_ble_eq_true rfl⟩) (mp_preS hC hS hM) rfl rfl hl.1 rfl (lv_room (Nat.le_of_ble_eq_true rfl)) dX8_item_189 ⟨Nat.le_of_ble_eq_true rfl, Nat.le_of_ble_eq_true rfl⟩) hS (fun H locs hM hS => ?_)
                            refine lv_if_eq (tgt := 199) hx hb dX8_item_192 (by decide) (fun c5 => ?_) (fun c5 => ?_)
                            · have c5 : (pB (md_in (f 10 (tb (f 10) sz (tnN (f 10) sz j))) 48 57)) = false := bI_0.mp c5
                              refine lv_iconst (v := (0 : Int32)) hx hb dX8_item_199 (by decide) ?_
                              refine lv_istore (lv' := [(6, .int (0 : Int32)), (5, .int (b ||| ((1 : Int32) <<< ((tnV (f 10) sz j) &&& 31)))), (0, .ref h), (1, .int (nI z)), (2, .long (wd (f 10) sz i))]) hx hb dX8_item_200 hl (by decide) rfl (fun ls hl => ?_)
                              refine lv_goto (tgt := 131) hx hb dX8_item_202 (by decide) ?_
                              refine lv_iload hx hb dX8_item_131 (lv_at hl 0 rfl) ?_
                              refine lv_if_eq (tgt := 205) hx hb dX8_item_133 (by decide) (fun c_21 => ?_) (fun c_21 => ?_)
                              · have c_21 := c_21
                                refine lv_lload_n hx hb dX8_item_205 rfl (lv_at hl 4 rfl) ?_
                                refine lv_ldc2 (v := 7697253) hx hb hown hw_202 dX8_item_206 ?_
                                refine W.lcmp hx hb dX8_item_209 ?_
                                refine lv_if_ne (tgt := 224) hx hb dX8_item_210 (by decide) (fun c_22 => ?_) (fun c_22 => ?_)
                                · have c_22 := fun q => c_22 ((lg_cmp_eq _ _).mpr q)
                                  refine lv_aload_n hx hb dX8_item_224 rfl (lv_at hl 2 rfl) ?_
                                  refine md_getr hx hb hts hin_wsX80 hown hC hM 18 (by decide) rfl fl_39 dX8_item_225 ?_
                                  refine lv_iload_n hx hb dX8_item_228 rfl (lv_at hl 3 rfl) ?_
                                  refine lv_iload hx hb dX8_item_229 (lv_at hl 1 rfl) ?_
                                  refine md_iast hx hb hC hM hS 18 rfl (j := z) (by omega) (by decide) dX8_item_231 (fun H locs hM hS => ?_)
                                  have hM : mp_P G.1 A (md_M G B h ad (upd (upd (upd n3 13 (nI (tnN (f 10) sz j))) 22 (tnV (f 10) sz j)) 13 (nI (tb (f 10) sz (tnN (f 10) sz j)))) (va_up f 18 (upd (f 18) z (b ||| ((1 : Int32) <<< ((tnV (f 10) sz j) &&& 31)))))) H := hM
                                  refine lv_aload_n hx hb dX8_item_232 rfl (lv_at hl 2 rfl) ?_
                                  refine lv_bipush (v := (59 : Int32)) hx hb dX8_item_233 (by decide) ?_
                                  have hb_23 := tk_in (t := (f 10)) (sz := sz) (i := tb (f 10) sz (tnN (f 10) sz j)) (59 : Int32) (by omega)
                                  have hb_24 := tb_in (t := (f 10)) (sz := sz) (i := tb (f 10) sz (tnN (f 10) sz j)) (by omega)
                                  refine mp_calli (va_runV (As := [.int (59 : Int32)]) (rest := []) ⟨hx, hb, hml, hown, hts⟩ (c_X8_takes l X G A B h ad (upd (upd (upd n3 13 (nI (tnN (f 10) sz j))) 22 (tnV (f 10) sz j)) 13 (nI (tb (f 10) sz (tnN (f 10) sz j)))) (va_up f 18 (upd (f 18) z (b ||| ((1 : Int32) <<< ((tnV (f 10) sz j) &&& 31))))) sz (tb (f 10) sz (tnN (f 10) sz j)) h12 (by omega) rfl (by omega) (59 : Int32)) (cwV 1 hts gX8_item_X8_takes rfl rfl rfl (by decide +kernel) ⟨Nat.le_of_ble_eq_true rfl, Nat.le_of_ble_eq_true rfl⟩) (mp_preV hC hS hM (md_recv hC hM)) rfl rfl hl.1 rfl (lv_room (Nat.le_of_ble_eq_true rfl)) dX8_item_235 ⟨Nat.le_of_ble_eq_true rfl, Nat.le_of_ble_eq_true rfl⟩) hS (fun H locs hM hS => ?_)
                                  exact mp_zret hx hb hr hlocks (Nat.le_of_ble_eq_true rfl) (Nat.le_of_ble_eq_true rfl) hM hS dX8_item_238 (bI_nar _) (have ek : itK (wd (f 10) sz i) = 5 := (by rw [itK, if_neg w0, if_neg w1, if_neg w2, if_neg w3, if_pos w5]); have X : stp (f 10) sz 601 (we (f 10) sz i) 0 = (true, tb (f 10) sz (tnN (f 10) sz j), b ||| ((1 : Int32) <<< ((tnV (f 10) sz j) &&& 31))) := (by rw [hst, hfu, stp, c2, if_pos rfl, pB_f (fun z => pB_not.mp c5 z.2), if_neg (by decide), bt1, if_pos (i_nle.mp c3)]); have E : itemS (f 10) sz i r = (pB (tkP (f 10) sz (tb (f 10) sz (tnN (f 10) sz j)) 59), tkN (f 10) sz (tb (f 10) sz (tnN (f 10) sz j)) 59, (b ||| ((1 : Int32) <<< ((tnV (f 10) sz j) &&& 31)), r.2.1, r.2.2)) := (by rw [itemS, if_neg (by rw [ek]; decide), if_neg (by rw [ek]; decide), X, if_pos rfl, if_neg (by rw [ek]; decide)]); ⟨_, _, rfl, by rw [E] <;> rfl, by rw [E] <;> rfl, fun k h1 h2 h3 => (by simp [upd, h1, h2, h3]; exact hn3 k h1 h2 h3), by rw [E]; exact zOK_plots hz _⟩)
                                · have c_22 := (lg_cmp_eq _ _).mp c_22
                                  exact absurd c_22 (fun z => absurd (z.symm.trans w5) (by decide))
                              · have c_21 := c_21
                                exact absurd c_21 (by decide)
                            · have c5 : (pB (md_in (f 10 (tb (f 10) sz (tnN (f 10) sz j))) 48 57)) = true := bI_1.mp c5
                              refine lv_iconst (v := (1 : Int32)) hx hb dX8_item_195 (by decide) ?_
                              refine lv_goto (tgt := 200) hx hb dX8_item_196 (by decide) ?_
                              refine lv_istore (lv' := [(6, .int (1 : Int32)), (5, .int (b ||| ((1 : Int32) <<< ((tnV (f 10) sz j) &&& 31)))), (0, .ref h), (1, .int (nI z)), (2, .long (wd (f 10) sz i))]) hx hb dX8_item_200 hl (by decide) rfl (fun ls hl => ?_)
                              refine lv_goto (tgt := 131) hx hb dX8_item_202 (by decide) ?_
                              refine lv_iload hx hb dX8_item_131 (lv_at hl 0 rfl) ?_
                              refine lv_if_eq (tgt := 205) hx hb dX8_item_133 (by decide) (fun c_25 => ?_) (fun c_25 => ?_)
                              · have c_25 := c_25
                                exact absurd c_25 (by decide)
                              · have c_25 := c_25
                                exact ih (tb (f 10) sz (tnN (f 10) sz j)) (b ||| ((1 : Int32) <<< ((tnV (f 10) sz j) &&& 31))) (fu - 1) (upd (upd (upd n3 13 (nI (tnN (f 10) sz j))) 22 (tnV (f 10) sz j)) 13 (nI (tb (f 10) sz (tnN (f 10) sz j)))) ls _ _ (by omega) (by omega) (by omega) rfl h12 (fun k h1 h2 h3 => (by simp [upd, h1, h2, h3]; exact hn3 k h1 h2 h3)) (by rw [hst, hfu, stp, c2, if_pos rfl, pB_t ⟨c4, pB_iff.mp c5⟩, if_pos rfl, bt1, if_pos (i_nle.mp c3)]; rfl) hM hS (lv_sub hl [2, 3, 4, 1] rfl)
                      · have c2 : (pB (tnP (f 10) sz j)) = false := bI_0.mp c2
                        refine lv_iconst (v := (0 : Int32)) hx hb dX8_item_143 (by decide) ?_
                        exact mp_zret hx hb hr hlocks (Nat.le_of_ble_eq_true rfl) (Nat.le_of_ble_eq_true rfl) hM hS dX8_item_144 (by first | rfl | exact bI_nar _) (have ek : itK (wd (f 10) sz i) = 5 := (by rw [itK, if_neg w0, if_neg w1, if_neg w2, if_neg w3, if_pos w5]); have E : itemS (f 10) sz i r = (false, (stp (f 10) sz 601 (we (f 10) sz i) 0).2.1, r) := (by rw [itemS, if_neg (by rw [ek]; decide), if_neg (by rw [ek]; decide), if_neg (by rw [hst, hfu, stp, c2]; exact Bool.false_ne_true)]); ⟨_, _, rfl, by rw [E]; rfl, by rw [E, hst, hfu, stp, c2]; rfl, fun k h1 h2 h3 => (by simp [upd, h1, h2, h3]; exact hn3 k h1 h2 h3), by rw [E]; exact zOK_same hz⟩)
                  exact LP136_5 _ (we (f 10) sz i) 0 601 (upd (upd (upd n 13 (nI (tb (f 10) sz i))) 21 (nI (we (f 10) sz i))) 13 (nI (we (f 10) sz i))) ls _ _ (Nat.lt_succ_self _) (by omega) (by omega) rfl hsz (fun k h1 h2 h3 => by simp [upd, h1, h2, h3]) rfl hM hS (lv_sub hl [4, 5, 3, 1] rfl)
              · have c_3 := c_3
                exact absurd c_3 (by decide)
            · have w5 := fun q => w5 ((lg_cmp_eq _ _).mpr q)
              refine lv_lload_n hx hb dX8_item_70 rfl (lv_at hl 1 rfl) ?_
              refine lv_ldc2 (v := 7697253) hx hb hown hw_202 dX8_item_71 ?_
              refine W.lcmp hx hb dX8_item_74 ?_
              refine lv_if_eq (tgt := 80) hx hb dX8_item_75 (by decide) (fun w4 => ?_) (fun w4 => ?_)
              · have w4 := (lg_cmp_eq _ _).mp w4
                refine lv_aload_n hx hb dX8_item_80 rfl (lv_at hl 2 rfl) ?_
                refine lv_aload_n hx hb dX8_item_81 rfl (lv_at hl 2 rfl) ?_
                refine md_geti hx hb hts hin_wsX80 hown hC hM 21 (by decide) rfl fl_176 dX8_item_82 ?_
                refine mp_top (nI (we (f 10) sz i)) rfl ?_
                refine md_puti hx hb hts hin_wsX80 hown hC hM hS 13 (by decide) rfl rfl rfl fl_167 dX8_item_85 (fun H locs hM hS => ?_)
                refine lv_iload hx hb dX8_item_88 (lv_at hl 0 rfl) ?_
                refine lv_iconst (v := (4 : Int32)) hx hb dX8_item_90 (by decide) ?_
                refine lv_icmp_ge (tgt := 125) hx hb dX8_item_91 (by decide) (fun c_26 => ?_) (fun c_26 => ?_)
                · have c_26 := c_26
                  refine lv_iconst (v := (0 : Int32)) hx hb dX8_item_125 (by decide) ?_
                  refine lv_istore (lv' := [(5, .int (0 : Int32)), (4, .int (4 : Int32)), (2, .long (wd (f 10) sz i)), (0, .ref h), (1, .int (nI z))]) hx hb dX8_item_126 hl (by decide) rfl (fun ls hl => ?_)
                  refine lv_iconst (v := (1 : Int32)) hx hb dX8_item_128 (by decide) ?_
                  refine lv_istore (lv' := [(6, .int (1 : Int32)), (5, .int (0 : Int32)), (4, .int (4 : Int32)), (2, .long (wd (f 10) sz i)), (0, .ref h), (1, .int (nI z))]) hx hb dX8_item_129 hl (by decide) rfl (fun ls hl => ?_)
                  refine lv_iload hx hb dX8_item_131 (lv_at hl 0 rfl) ?_
                  refine lv_if_eq (tgt := 205) hx hb dX8_item_133 (by decide) (fun c_27 => ?_) (fun c_27 => ?_)
                  · have c_27 := c_27
                    exact absurd c_27 (by decide)
                  · have c_27 := c_27
                    have LP136_4 : ∀ (kk : Nat) (j : Nat) (b : Int32) (fu : Nat) (n3 : Nat → Int32) (ls : Array Slot) (H : Heap) (locs : List Loc), sz - j < kk → j ≤ sz → sz - j < fu → n3 13 = nI j → n3 12 = nI sz → nOK n n3 → stp (f 10) sz 601 (we (f 10) sz i) 0 = stp (f 10) sz fu j b → mp_P G.1 A (md_M G B h ad n3 f) H → va_S A s.heap H locs → lv_has ls 7 [(0, .ref h), (1, .int (nI z)), (2, .long (wd (f 10) sz i)), (5, .int b)] → W p l e rmX8_item s m ([.ref h, .int (nI z)] : List Value).toArray below meth c H locs 0 0 (MQ below (mp_Q G.1 A (fun v1 M1 => ∃ n2 f2, M1 = md_M G B h ad n2 f2 ∧ v1 = some (.int (bI (itemS (f 10) sz i r).1)) ∧ n2 13 = nI (itemS (f 10) sz i r).2.1 ∧ nOK n n2 ∧ zOK f f2 z (itemS (f 10) sz i r).2.2)) ([.ref h, .int (nI z)] : List Value).toArray s 0 0 A) (F0 m 136 ls []) := by
                      intro kk
                      induction kk with
                      | zero => intro j b fu n3 ls H locs hk; exact absurd hk (Nat.not_lt_zero _)
                      | succ kk ih =>
                        intro j b fu n3 ls H locs hk hj hfl h13 h12 hn3 hst hM hS hl
                        have hfu : fu = (fu - 1) + 1 := by omega
                        refine lv_aload_n hx hb dX8_item_136 rfl (lv_at hl 0 rfl) ?_
                        have hb_28 := tn_in (t := (f 10)) (sz := sz) (i := j) (by omega)
                        refine mp_calli (va_runV (As := []) (rest := []) ⟨hx, hb, hml, hown, hts⟩ (c_X8_takesNumber l X G A B h ad n3 f sz j h12 (by omega) h13 (by omega)) (cwV 0 hts gX8_item_X8_takesNumber rfl rfl rfl (by decide +kernel) ⟨Nat.le_of_ble_eq_true rfl, Nat.le_of_ble_eq_true rfl⟩) (mp_preV hC hS hM (md_recv hC hM)) rfl rfl hl.1 rfl (lv_room (Nat.le_of_ble_eq_true rfl)) dX8_item_137 ⟨Nat.le_of_ble_eq_true rfl, Nat.le_of_ble_eq_true rfl⟩) hS (fun H locs hM hS => ?_)
                        refine lv_if_ne (tgt := 145) hx hb dX8_item_140 (by decide) (fun c2 => ?_) (fun c2 => ?_)
                        · have c2 : (pB (tnP (f 10) sz j)) = true := bI_1.mp c2
                          have hpr : j < tnN (f 10) sz j := by have q := pB_iff.mp c2; have q2 := dz_in (t := f 10) (sz := sz) (i := j) (by omega); rw [tnN, c2, if_pos rfl]; have := q.1; omega
                          refine lv_aload_n hx hb dX8_item_145 rfl (lv_at hl 0 rfl) ?_
                          refine md_geti hx hb hts hin_wsX80 hown hC hM 22 (by decide) rfl fl_182 dX8_item_146 ?_
                          refine mp_top (tnV (f 10) sz j) rfl ?_
                          refine lv_bipush (v := (16 : Int32)) hx hb dX8_item_149 (by decide) ?_
                          refine lv_icmp_ge (tgt := 165) hx hb dX8_item_151 (by decide) (fun c3 => ?_) (fun c3 => ?_)
                          · have c3 := c3
                            refine lv_aload_n hx hb dX8_item_165 rfl (lv_at hl 0 rfl) ?_
                            have hb_29 := tb_in (t := (f 10)) (sz := sz) (i := tnN (f 10) sz j) (by omega)
                            refine mp_callv (va_runV (As := []) (rest := []) ⟨hx, hb, hml, hown, hts⟩ (c_X8_blanks l X G A B h ad (upd (upd n3 13 (nI (tnN (f 10) sz j))) 22 (tnV (f 10) sz j)) f sz (tnN (f 10) sz j) (by exact h12) (by omega) rfl (by omega)) (cwV 0 hts gX8_item_X8_blanks rfl rfl rfl (by decide +kernel) ⟨Nat.le_of_ble_eq_true rfl, Nat.le_of_ble_eq_true rfl⟩) (mp_preV hC hS hM (md_recv hC hM)) rfl rfl hl.1 rfl (lv_room (Nat.le_of_ble_eq_true rfl)) dX8_item_166 ⟨Nat.le_of_ble_eq_true rfl, Nat.le_of_ble_eq_true rfl⟩) hS (fun H locs hM hS => ?_)
                            refine lv_aload_n hx hb dX8_item_169 rfl (lv_at hl 0 rfl) ?_
                            refine md_geti hx hb hts hin_wsX80 hown hC hM 13 (by decide) rfl fl_167 dX8_item_170 ?_
                            refine mp_top (nI (tb (f 10) sz (tnN (f 10) sz j))) rfl ?_
                            refine lv_aload_n hx hb dX8_item_173 rfl (lv_at hl 0 rfl) ?_
                            refine md_geti hx hb hts hin_wsX80 hown hC hM 12 (by decide) rfl fl_170 dX8_item_174 ?_
                            refine mp_top (n3 12) rfl ?_
                            refine mp_top (nI sz) h12 ?_
                            refine lv_icmp_ge (tgt := 199) hx hb dX8_item_177 (by decide) (fun c4 => ?_) (fun c4 => ?_)
                            · have c4 := nn_le (a := sz) (b := tb (f 10) sz (tnN (f 10) sz j)) (by omega) (by omega) c4
                              refine lv_iconst (v := (0 : Int32)) hx hb dX8_item_199 (by decide) ?_
                              refine lv_istore (lv' := [(6, .int (0 : Int32)), (0, .ref h), (1, .int (nI z)), (2, .long (wd (f 10) sz i)), (5, .int b)]) hx hb dX8_item_200 hl (by decide) rfl (fun ls hl => ?_)
                              refine lv_goto (tgt := 131) hx hb dX8_item_202 (by decide) ?_
                              refine lv_iload hx hb dX8_item_131 (lv_at hl 0 rfl) ?_
                              refine lv_if_eq (tgt := 205) hx hb dX8_item_133 (by decide) (fun c_30 => ?_) (fun c_30 => ?_)
                              · have c_30 := c_30
                                refine lv_lload_n hx hb dX8_item_205 rfl (lv_at hl 3 rfl) ?_
                                refine lv_ldc2 (v := 7697253) hx hb hown hw_202 dX8_item_206 ?_
                                refine W.lcmp hx hb dX8_item_209 ?_
                                refine lv_if_ne (tgt := 224) hx hb dX8_item_210 (by decide) (fun c_31 => ?_) (fun c_31 => ?_)
                                · have c_31 := fun q => c_31 ((lg_cmp_eq _ _).mpr q)
                                  exact absurd c_31 (fun z => z w4)
                                · have c_31 := (lg_cmp_eq _ _).mp c_31
                                  refine lv_aload_n hx hb dX8_item_213 rfl (lv_at hl 1 rfl) ?_
                                  refine md_getr hx hb hts hin_wsX80 hown hC hM 19 (by decide) rfl fl_42 dX8_item_214 ?_
                                  refine lv_iload_n hx hb dX8_item_217 rfl (lv_at hl 2 rfl) ?_
                                  refine lv_iload hx hb dX8_item_218 (lv_at hl 4 rfl) ?_
                                  refine md_iast hx hb hC hM hS 19 rfl (j := z) (by omega) (by decide) dX8_item_220 (fun H locs hM hS => ?_)
                                  have hM : mp_P G.1 A (md_M G B h ad (upd (upd (upd n3 13 (nI (tnN (f 10) sz j))) 22 (tnV (f 10) sz j)) 13 (nI (tb (f 10) sz (tnN (f 10) sz j)))) (va_up f 19 (upd (f 19) z b))) H := hM
                                  refine lv_goto (tgt := 232) hx hb dX8_item_221 (by decide) ?_
                                  refine lv_aload_n hx hb dX8_item_232 rfl (lv_at hl 1 rfl) ?_
                                  refine lv_bipush (v := (59 : Int32)) hx hb dX8_item_233 (by decide) ?_
                                  have hb_32 := tk_in (t := (f 10)) (sz := sz) (i := tb (f 10) sz (tnN (f 10) sz j)) (59 : Int32) (by omega)
                                  have hb_33 := tb_in (t := (f 10)) (sz := sz) (i := tb (f 10) sz (tnN (f 10) sz j)) (by omega)
                                  refine mp_calli (va_runV (As := [.int (59 : Int32)]) (rest := []) ⟨hx, hb, hml, hown, hts⟩ (c_X8_takes l X G A B h ad (upd (upd (upd n3 13 (nI (tnN (f 10) sz j))) 22 (tnV (f 10) sz j)) 13 (nI (tb (f 10) sz (tnN (f 10) sz j)))) (va_up f 19 (upd (f 19) z b)) sz (tb (f 10) sz (tnN (f 10) sz j)) h12 (by omega) rfl (by omega) (59 : Int32)) (cwV 1 hts gX8_item_X8_takes rfl rfl rfl (by decide +kernel) ⟨Nat.le_of_ble_eq_true rfl, Nat.le_of_ble_eq_true rfl⟩) (mp_preV hC hS hM (md_recv hC hM)) rfl rfl hl.1 rfl (lv_room (Nat.le_of_ble_eq_true rfl)) dX8_item_235 ⟨Nat.le_of_ble_eq_true rfl, Nat.le_of_ble_eq_true rfl⟩) hS (fun H locs hM hS => ?_)
                                  exact mp_zret hx hb hr hlocks (Nat.le_of_ble_eq_true rfl) (Nat.le_of_ble_eq_true rfl) hM hS dX8_item_238 (bI_nar _) (have ek : itK (wd (f 10) sz i) = 4 := (by rw [itK, if_neg w0, if_neg w1, if_neg w2, if_neg w3, if_neg w5, if_pos w4]); have X : stp (f 10) sz 601 (we (f 10) sz i) 0 = (true, tb (f 10) sz (tnN (f 10) sz j), b) := (by rw [hst, hfu, stp, c2, if_pos rfl, pB_f (fun z => absurd z.1 (by omega)), if_neg (by decide), bt1, if_neg (i_nlt.mpr c3)]); have E : itemS (f 10) sz i r = (pB (tkP (f 10) sz (tb (f 10) sz (tnN (f 10) sz j)) 59), tkN (f 10) sz (tb (f 10) sz (tnN (f 10) sz j)) 59, (r.1, b, r.2.2)) := (by rw [itemS, if_neg (by rw [ek]; decide), if_neg (by rw [ek]; decide), X, if_pos rfl, if_pos ek]); ⟨_, _, rfl, by rw [E] <;> rfl, by rw [E] <;> rfl, fun k h1 h2 h3 => (by simp [upd, h1, h2, h3]; exact hn3 k h1 h2 h3), by rw [E]; exact zOK_use hz _⟩)
                              · have c_30 := c_30
                                exact absurd c_30 (by decide)
                            · have c4 := nn_nle (a := sz) (b := tb (f 10) sz (tnN (f 10) sz j)) (by omega) (by omega) c4
                              refine lv_aload_n hx hb dX8_item_180 rfl (lv_at hl 0 rfl) ?_
                              refine md_getr hx hb hts hin_wsX80 hown hC hM 10 (by decide) rfl fl_23 dX8_item_181 ?_
                              refine lv_aload_n hx hb dX8_item_184 rfl (lv_at hl 0 rfl) ?_
                              refine md_geti hx hb hts hin_wsX80 hown hC hM 13 (by decide) rfl fl_167 dX8_item_185 ?_
                              refine mp_top (nI (tb (f 10) sz (tnN (f 10) sz j))) rfl ?_
                              refine md_bald hx hb hC hM 10 rfl (j := tb (f 10) sz (tnN (f 10) sz j)) (by omega) (by decide) dX8_item_188 ?_
                              refine mp_calli (va_runS (As := [.int (f 10 (tb (f 10) sz (tnN (f 10) sz j)))]) (rest := []) ⟨hx, hb, hml, hown, hts⟩ (c_X8_isDigit l X G A (md_M G B h ad (upd (upd (upd n3 13 (nI (tnN (f 10) sz j))) 22 (tnV (f 10) sz j)) 13 (nI (tb (f 10) sz (tnN (f 10) sz j)))) f) (f 10 (tb (f 10) sz (tnN (f 10) sz j)))) (va_cwS 1 hts gX8_item_X8_isDigit rfl rfl rfl (by decide +kernel) ⟨Nat.le_of_ble_eq_true rfl, Nat.le_of_ble_eq_true rfl⟩) (mp_preS hC hS hM) rfl rfl hl.1 rfl (lv_room (Nat.le_of_ble_eq_true rfl)) dX8_item_189 ⟨Nat.le_of_ble_eq_true rfl, Nat.le_of_ble_eq_true rfl⟩) hS (fun H locs hM hS => ?_)
                              refine lv_if_eq (tgt := 199) hx hb dX8_item_192 (by decide) (fun c5 => ?_) (fun c5 => ?_)
                              · have c5 : (pB (md_in (f 10 (tb (f 10) sz (tnN (f 10) sz j))) 48 57)) = false := bI_0.mp c5
                                refine lv_iconst (v := (0 : Int32)) hx hb dX8_item_199 (by decide) ?_
                                refine lv_istore (lv' := [(6, .int (0 : Int32)), (0, .ref h), (1, .int (nI z)), (2, .long (wd (f 10) sz i)), (5, .int b)]) hx hb dX8_item_200 hl (by decide) rfl (fun ls hl => ?_)
                                refine lv_goto (tgt := 131) hx hb dX8_item_202 (by decide) ?_
                                refine lv_iload hx hb dX8_item_131 (lv_at hl 0 rfl) ?_
                                refine lv_if_eq (tgt := 205) hx hb dX8_item_133 (by decide) (fun c_34 => ?_) (fun c_34 => ?_)
                                · have c_34 := c_34
                                  refine lv_lload_n hx hb dX8_item_205 rfl (lv_at hl 3 rfl) ?_
                                  refine lv_ldc2 (v := 7697253) hx hb hown hw_202 dX8_item_206 ?_
                                  refine W.lcmp hx hb dX8_item_209 ?_
                                  refine lv_if_ne (tgt := 224) hx hb dX8_item_210 (by decide) (fun c_35 => ?_) (fun c_35 => ?_)
                                  · have c_35 := fun q => c_35 ((lg_cmp_eq _ _).mpr q)
                                    exact absurd c_35 (fun z => z w4)
                                  · have c_35 := (lg_cmp_eq _ _).mp c_35
                                    refine lv_aload_n hx hb dX8_item_213 rfl (lv_at hl 1 rfl) ?_
                                    refine md_getr hx hb hts hin_wsX80 hown hC hM 19 (by decide) rfl fl_42 dX8_item_214 ?_
                                    refine lv_iload_n hx hb dX8_item_217 rfl (lv_at hl 2 rfl) ?_
                                    refine lv_iload hx hb dX8_item_218 (lv_at hl 4 rfl) ?_
                                    refine md_iast hx hb hC hM hS 19 rfl (j := z) (by omega) (by decide) dX8_item_220 (fun H locs hM hS => ?_)
                                    have hM : mp_P G.1 A (md_M G B h ad (upd (upd (upd n3 13 (nI (tnN (f 10) sz j))) 22 (tnV (f 10) sz j)) 13 (nI (tb (f 10) sz (tnN (f 10) sz j)))) (va_up f 19 (upd (f 19) z b))) H := hM
                                    refine lv_goto (tgt := 232) hx hb dX8_item_221 (by decide) ?_
                                    refine lv_aload_n hx hb dX8_item_232 rfl (lv_at hl 1 rfl) ?_
                                    refine lv_bipush (v := (59 : Int32)) hx hb dX8_item_233 (by decide) ?_
                                    have hb_36 := tk_in (t := (f 10)) (sz := sz) (i := tb (f 10) sz (tnN (f 10) sz j)) (59 : Int32) (by omega)
                                    have hb_37 := tb_in (t := (f 10)) (sz := sz) (i := tb (f 10) sz (tnN (f 10) sz j)) (by omega)
                                    refine mp_calli (va_runV (As := [.int (59 : Int32)]) (rest := []) ⟨hx, hb, hml, hown, hts⟩ (c_X8_takes l X G A B h ad (upd (upd (upd n3 13 (nI (tnN (f 10) sz j))) 22 (tnV (f 10) sz j)) 13 (nI (tb (f 10) sz (tnN (f 10) sz j)))) (va_up f 19 (upd (f 19) z b)) sz (tb (f 10) sz (tnN (f 10) sz j)) h12 (by omega) rfl (by omega) (59 : Int32)) (cwV 1 hts gX8_item_X8_takes rfl rfl rfl (by decide +kernel) ⟨Nat.le_of_ble_eq_true rfl, Nat.le_of_ble_eq_true rfl⟩) (mp_preV hC hS hM (md_recv hC hM)) rfl rfl hl.1 rfl (lv_room (Nat.le_of_ble_eq_true rfl)) dX8_item_235 ⟨Nat.le_of_ble_eq_true rfl, Nat.le_of_ble_eq_true rfl⟩) hS (fun H locs hM hS => ?_)
                                    exact mp_zret hx hb hr hlocks (Nat.le_of_ble_eq_true rfl) (Nat.le_of_ble_eq_true rfl) hM hS dX8_item_238 (bI_nar _) (have ek : itK (wd (f 10) sz i) = 4 := (by rw [itK, if_neg w0, if_neg w1, if_neg w2, if_neg w3, if_neg w5, if_pos w4]); have X : stp (f 10) sz 601 (we (f 10) sz i) 0 = (true, tb (f 10) sz (tnN (f 10) sz j), b) := (by rw [hst, hfu, stp, c2, if_pos rfl, pB_f (fun z => pB_not.mp c5 z.2), if_neg (by decide), bt1, if_neg (i_nlt.mpr c3)]); have E : itemS (f 10) sz i r = (pB (tkP (f 10) sz (tb (f 10) sz (tnN (f 10) sz j)) 59), tkN (f 10) sz (tb (f 10) sz (tnN (f 10) sz j)) 59, (r.1, b, r.2.2)) := (by rw [itemS, if_neg (by rw [ek]; decide), if_neg (by rw [ek]; decide), X, if_pos rfl, if_pos ek]); ⟨_, _, rfl, by rw [E] <;> rfl, by rw [E] <;> rfl, fun k h1 h2 h3 => (by simp [upd, h1, h2, h3]; exact hn3 k h1 h2 h3), by rw [E]; exact zOK_use hz _⟩)
                                · have c_34 := c_34
                                  exact absurd c_34 (by decide)
                              · have c5 : (pB (md_in (f 10 (tb (f 10) sz (tnN (f 10) sz j))) 48 57)) = true := bI_1.mp c5
                                refine lv_iconst (v := (1 : Int32)) hx hb dX8_item_195 (by decide) ?_
                                refine lv_goto (tgt := 200) hx hb dX8_item_196 (by decide) ?_
                                refine lv_istore (lv' := [(6, .int (1 : Int32)), (0, .ref h), (1, .int (nI z)), (2, .long (wd (f 10) sz i)), (5, .int b)]) hx hb dX8_item_200 hl (by decide) rfl (fun ls hl => ?_)
                                refine lv_goto (tgt := 131) hx hb dX8_item_202 (by decide) ?_
                                refine lv_iload hx hb dX8_item_131 (lv_at hl 0 rfl) ?_
                                refine lv_if_eq (tgt := 205) hx hb dX8_item_133 (by decide) (fun c_38 => ?_) (fun c_38 => ?_)
                                · have c_38 := c_38
                                  exact absurd c_38 (by decide)
                                · have c_38 := c_38
                                  exact ih (tb (f 10) sz (tnN (f 10) sz j)) (b) (fu - 1) (upd (upd (upd n3 13 (nI (tnN (f 10) sz j))) 22 (tnV (f 10) sz j)) 13 (nI (tb (f 10) sz (tnN (f 10) sz j)))) ls _ _ (by omega) (by omega) (by omega) rfl h12 (fun k h1 h2 h3 => (by simp [upd, h1, h2, h3]; exact hn3 k h1 h2 h3)) (by rw [hst, hfu, stp, c2, if_pos rfl, pB_t ⟨c4, pB_iff.mp c5⟩, if_pos rfl, bt1, if_neg (i_nlt.mpr c3)]; rfl) hM hS (lv_sub hl [1, 2, 3, 4] rfl)
                          · have c3 := c3
                            refine lv_iload hx hb dX8_item_154 (lv_at hl 3 rfl) ?_
                            refine lv_iconst (v := (1 : Int32)) hx hb dX8_item_156 (by decide) ?_
                            refine lv_aload_n hx hb dX8_item_157 rfl (lv_at hl 0 rfl) ?_
                            refine md_geti hx hb hts hin_wsX80 hown hC hM 22 (by decide) rfl fl_182 dX8_item_158 ?_
                            refine mp_top (tnV (f 10) sz j) rfl ?_
                            refine lv_ishl hx hb dX8_item_161 ?_
                            refine lv_ior hx hb dX8_item_162 ?_
                            refine lv_istore (lv' := [(5, .int (b ||| ((1 : Int32) <<< ((tnV (f 10) sz j) &&& 31)))), (0, .ref h), (1, .int (nI z)), (2, .long (wd (f 10) sz i))]) hx hb dX8_item_163 hl (by decide) rfl (fun ls hl => ?_)
                            refine lv_aload_n hx hb dX8_item_165 rfl (lv_at hl 1 rfl) ?_
                            have hb_39 := tb_in (t := (f 10)) (sz := sz) (i := tnN (f 10) sz j) (by omega)
                            refine mp_callv (va_runV (As := []) (rest := []) ⟨hx, hb, hml, hown, hts⟩ (c_X8_blanks l X G A B h ad (upd (upd n3 13 (nI (tnN (f 10) sz j))) 22 (tnV (f 10) sz j)) f sz (tnN (f 10) sz j) (by exact h12) (by omega) rfl (by omega)) (cwV 0 hts gX8_item_X8_blanks rfl rfl rfl (by decide +kernel) ⟨Nat.le_of_ble_eq_true rfl, Nat.le_of_ble_eq_true rfl⟩) (mp_preV hC hS hM (md_recv hC hM)) rfl rfl hl.1 rfl (lv_room (Nat.le_of_ble_eq_true rfl)) dX8_item_166 ⟨Nat.le_of_ble_eq_true rfl, Nat.le_of_ble_eq_true rfl⟩) hS (fun H locs hM hS => ?_)
                            refine lv_aload_n hx hb dX8_item_169 rfl (lv_at hl 1 rfl) ?_
                            refine md_geti hx hb hts hin_wsX80 hown hC hM 13 (by decide) rfl fl_167 dX8_item_170 ?_
                            refine mp_top (nI (tb (f 10) sz (tnN (f 10) sz j))) rfl ?_
                            refine lv_aload_n hx hb dX8_item_173 rfl (lv_at hl 1 rfl) ?_
                            refine md_geti hx hb hts hin_wsX80 hown hC hM 12 (by decide) rfl fl_170 dX8_item_174 ?_
                            refine mp_top (n3 12) rfl ?_
                            refine mp_top (nI sz) h12 ?_
                            refine lv_icmp_ge (tgt := 199) hx hb dX8_item_177 (by decide) (fun c4 => ?_) (fun c4 => ?_)
                            · have c4 := nn_le (a := sz) (b := tb (f 10) sz (tnN (f 10) sz j)) (by omega) (by omega) c4
                              refine lv_iconst (v := (0 : Int32)) hx hb dX8_item_199 (by decide) ?_
                              refine lv_istore (lv' := [(6, .int (0 : Int32)), (5, .int (b ||| ((1 : Int32) <<< ((tnV (f 10) sz j) &&& 31)))), (0, .ref h), (1, .int (nI z)), (2, .long (wd (f 10) sz i))]) hx hb dX8_item_200 hl (by decide) rfl (fun ls hl => ?_)
                              refine lv_goto (tgt := 131) hx hb dX8_item_202 (by decide) ?_
                              refine lv_iload hx hb dX8_item_131 (lv_at hl 0 rfl) ?_
                              refine lv_if_eq (tgt := 205) hx hb dX8_item_133 (by decide) (fun c_40 => ?_) (fun c_40 => ?_)
                              · have c_40 := c_40
                                refine lv_lload_n hx hb dX8_item_205 rfl (lv_at hl 4 rfl) ?_
                                refine lv_ldc2 (v := 7697253) hx hb hown hw_202 dX8_item_206 ?_
                                refine W.lcmp hx hb dX8_item_209 ?_
                                refine lv_if_ne (tgt := 224) hx hb dX8_item_210 (by decide) (fun c_41 => ?_) (fun c_41 => ?_)
                                · have c_41 := fun q => c_41 ((lg_cmp_eq _ _).mpr q)
                                  exact absurd c_41 (fun z => z w4)
                                · have c_41 := (lg_cmp_eq _ _).mp c_41
                                  refine lv_aload_n hx hb dX8_item_213 rfl (lv_at hl 2 rfl) ?_
                                  refine md_getr hx hb hts hin_wsX80 hown hC hM 19 (by decide) rfl fl_42 dX8_item_214 ?_
                                  refine lv_iload_n hx hb dX8_item_217 rfl (lv_at hl 3 rfl) ?_
                                  refine lv_iload hx hb dX8_item_218 (lv_at hl 1 rfl) ?_
                                  refine md_iast hx hb hC hM hS 19 rfl (j := z) (by omega) (by decide) dX8_item_220 (fun H locs hM hS => ?_)
                                  have hM : mp_P G.1 A (md_M G B h ad (upd (upd (upd n3 13 (nI (tnN (f 10) sz j))) 22 (tnV (f 10) sz j)) 13 (nI (tb (f 10) sz (tnN (f 10) sz j)))) (va_up f 19 (upd (f 19) z (b ||| ((1 : Int32) <<< ((tnV (f 10) sz j) &&& 31)))))) H := hM
                                  refine lv_goto (tgt := 232) hx hb dX8_item_221 (by decide) ?_
                                  refine lv_aload_n hx hb dX8_item_232 rfl (lv_at hl 2 rfl) ?_
                                  refine lv_bipush (v := (59 : Int32)) hx hb dX8_item_233 (by decide) ?_
                                  have hb_42 := tk_in (t := (f 10)) (sz := sz) (i := tb (f 10) sz (tnN (f 10) sz j)) (59 : Int32) (by omega)
                                  have hb_43 := tb_in (t := (f 10)) (sz := sz) (i := tb (f 10) sz (tnN (f 10) sz j)) (by omega)
                                  refine mp_calli (va_runV (As := [.int (59 : Int32)]) (rest := []) ⟨hx, hb, hml, hown, hts⟩ (c_X8_takes l X G A B h ad (upd (upd (upd n3 13 (nI (tnN (f 10) sz j))) 22 (tnV (f 10) sz j)) 13 (nI (tb (f 10) sz (tnN (f 10) sz j)))) (va_up f 19 (upd (f 19) z (b ||| ((1 : Int32) <<< ((tnV (f 10) sz j) &&& 31))))) sz (tb (f 10) sz (tnN (f 10) sz j)) h12 (by omega) rfl (by omega) (59 : Int32)) (cwV 1 hts gX8_item_X8_takes rfl rfl rfl (by decide +kernel) ⟨Nat.le_of_ble_eq_true rfl, Nat.le_of_ble_eq_true rfl⟩) (mp_preV hC hS hM (md_recv hC hM)) rfl rfl hl.1 rfl (lv_room (Nat.le_of_ble_eq_true rfl)) dX8_item_235 ⟨Nat.le_of_ble_eq_true rfl, Nat.le_of_ble_eq_true rfl⟩) hS (fun H locs hM hS => ?_)
                                  exact mp_zret hx hb hr hlocks (Nat.le_of_ble_eq_true rfl) (Nat.le_of_ble_eq_true rfl) hM hS dX8_item_238 (bI_nar _) (have ek : itK (wd (f 10) sz i) = 4 := (by rw [itK, if_neg w0, if_neg w1, if_neg w2, if_neg w3, if_neg w5, if_pos w4]); have X : stp (f 10) sz 601 (we (f 10) sz i) 0 = (true, tb (f 10) sz (tnN (f 10) sz j), b ||| ((1 : Int32) <<< ((tnV (f 10) sz j) &&& 31))) := (by rw [hst, hfu, stp, c2, if_pos rfl, pB_f (fun z => absurd z.1 (by omega)), if_neg (by decide), bt1, if_pos (i_nle.mp c3)]); have E : itemS (f 10) sz i r = (pB (tkP (f 10) sz (tb (f 10) sz (tnN (f 10) sz j)) 59), tkN (f 10) sz (tb (f 10) sz (tnN (f 10) sz j)) 59, (r.1, b ||| ((1 : Int32) <<< ((tnV (f 10) sz j) &&& 31)), r.2.2)) := (by rw [itemS, if_neg (by rw [ek]; decide), if_neg (by rw [ek]; decide), X, if_pos rfl, if_pos ek]); ⟨_, _, rfl, by rw [E] <;> rfl, by rw [E] <;> rfl, fun k h1 h2 h3 => (by simp [upd, h1, h2, h3]; exact hn3 k h1 h2 h3), by rw [E]; exact zOK_use hz _⟩)
                              · have c_40 := c_40
                                exact absurd c_40 (by decide)
                            · have c4 := nn_nle (a := sz) (b := tb (f 10) sz (tnN (f 10) sz j)) (by omega) (by omega) c4
                              refine lv_aload_n hx hb dX8_item_180 rfl (lv_at hl 1 rfl) ?_
                              refine md_getr hx hb hts hin_wsX80 hown hC hM 10 (by decide) rfl fl_23 dX8_item_181 ?_
                              refine lv_aload_n hx hb dX8_item_184 rfl (lv_at hl 1 rfl) ?_
                              refine md_geti hx hb hts hin_wsX80 hown hC hM 13 (by decide) rfl fl_167 dX8_item_185 ?_
                              refine mp_top (nI (tb (f 10) sz (tnN (f 10) sz j))) rfl ?_
                              refine md_bald hx hb hC hM 10 rfl (j := tb (f 10) sz (tnN (f 10) sz j)) (by omega) (by decide) dX8_item_188 ?_
                              refine mp_calli (va_runS (As := [.int (f 10 (tb (f 10) sz (tnN (f 10) sz j)))]) (rest := []) ⟨hx, hb, hml, hown, hts⟩ (c_X8_isDigit l X G A (md_M G B h ad (upd (upd (upd n3 13 (nI (tnN (f 10) sz j))) 22 (tnV (f 10) sz j)) 13 (nI (tb (f 10) sz (tnN (f 10) sz j)))) f) (f 10 (tb (f 10) sz (tnN (f 10) sz j)))) (va_cwS 1 hts gX8_item_X8_isDigit rfl rfl rfl (by decide +kernel) ⟨Nat.le_of_ble_eq_true rfl, Nat.le_of_ble_eq_true rfl⟩) (mp_preS hC hS hM) rfl rfl hl.1 rfl (lv_room (Nat.le_of_ble_eq_true rfl)) dX8_item_189 ⟨Nat.le_of_ble_eq_true rfl, Nat.le_of_ble_eq_true rfl⟩) hS (fun H locs hM hS => ?_)
                              refine lv_if_eq (tgt := 199) hx hb dX8_item_192 (by decide) (fun c5 => ?_) (fun c5 => ?_)
                              · have c5 : (pB (md_in (f 10 (tb (f 10) sz (tnN (f 10) sz j))) 48 57)) = false := bI_0.mp c5
                                refine lv_iconst (v := (0 : Int32)) hx hb dX8_item_199 (by decide) ?_
                                refine lv_istore (lv' := [(6, .int (0 : Int32)), (5, .int (b ||| ((1 : Int32) <<< ((tnV (f 10) sz j) &&& 31)))), (0, .ref h), (1, .int (nI z)), (2, .long (wd (f 10) sz i))]) hx hb dX8_item_200 hl (by decide) rfl (fun ls hl => ?_)
                                refine lv_goto (tgt := 131) hx hb dX8_item_202 (by decide) ?_
                                refine lv_iload hx hb dX8_item_131 (lv_at hl 0 rfl) ?_
                                refine lv_if_eq (tgt := 205) hx hb dX8_item_133 (by decide) (fun c_44 => ?_) (fun c_44 => ?_)
                                · have c_44 := c_44
                                  refine lv_lload_n hx hb dX8_item_205 rfl (lv_at hl 4 rfl) ?_
                                  refine lv_ldc2 (v := 7697253) hx hb hown hw_202 dX8_item_206 ?_
                                  refine W.lcmp hx hb dX8_item_209 ?_
                                  refine lv_if_ne (tgt := 224) hx hb dX8_item_210 (by decide) (fun c_45 => ?_) (fun c_45 => ?_)
                                  · have c_45 := fun q => c_45 ((lg_cmp_eq _ _).mpr q)
                                    exact absurd c_45 (fun z => z w4)
                                  · have c_45 := (lg_cmp_eq _ _).mp c_45
                                    refine lv_aload_n hx hb dX8_item_213 rfl (lv_at hl 2 rfl) ?_
                                    refine md_getr hx hb hts hin_wsX80 hown hC hM 19 (by decide) rfl fl_42 dX8_item_214 ?_
                                    refine lv_iload_n hx hb dX8_item_217 rfl (lv_at hl 3 rfl) ?_
                                    refine lv_iload hx hb dX8_item_218 (lv_at hl 1 rfl) ?_
                                    refine md_iast hx hb hC hM hS 19 rfl (j := z) (by omega) (by decide) dX8_item_220 (fun H locs hM hS => ?_)
                                    have hM : mp_P G.1 A (md_M G B h ad (upd (upd (upd n3 13 (nI (tnN (f 10) sz j))) 22 (tnV (f 10) sz j)) 13 (nI (tb (f 10) sz (tnN (f 10) sz j)))) (va_up f 19 (upd (f 19) z (b ||| ((1 : Int32) <<< ((tnV (f 10) sz j) &&& 31)))))) H := hM
                                    refine lv_goto (tgt := 232) hx hb dX8_item_221 (by decide) ?_
                                    refine lv_aload_n hx hb dX8_item_232 rfl (lv_at hl 2 rfl) ?_
                                    refine lv_bipush (v := (59 : Int32)) hx hb dX8_item_233 (by decide) ?_
                                    have hb_46 := tk_in (t := (f 10)) (sz := sz) (i := tb (f 10) sz (tnN (f 10) sz j)) (59 : Int32) (by omega)
                                    have hb_47 := tb_in (t := (f 10)) (sz := sz) (i := tb (f 10) sz (tnN (f 10) sz j)) (by omega)
                                    refine mp_calli (va_runV (As := [.int (59 : Int32)]) (rest := []) ⟨hx, hb, hml, hown, hts⟩ (c_X8_takes l X G A B h ad (upd (upd (upd n3 13 (nI (tnN (f 10) sz j))) 22 (tnV (f 10) sz j)) 13 (nI (tb (f 10) sz (tnN (f 10) sz j)))) (va_up f 19 (upd (f 19) z (b ||| ((1 : Int32) <<< ((tnV (f 10) sz j) &&& 31))))) sz (tb (f 10) sz (tnN (f 10) sz j)) h12 (by omega) rfl (by omega) (59 : Int32)) (cwV 1 hts gX8_item_X8_takes rfl rfl rfl (by decide +kernel) ⟨Nat.le_of_ble_eq_true rfl, Nat.le_of_ble_eq_true rfl⟩) (mp_preV hC hS hM (md_recv hC hM)) rfl rfl hl.1 rfl (lv_room (Nat.le_of_ble_eq_true rfl)) dX8_item_235 ⟨Nat.le_of_ble_eq_true rfl, Nat.le_of_ble_eq_true rfl⟩) hS (fun H locs hM hS => ?_)
                                    exact mp_zret hx hb hr hlocks (Nat.le_of_ble_eq_true rfl) (Nat.le_of_ble_eq_true rfl) hM hS dX8_item_238 (bI_nar _) (have ek : itK (wd (f 10) sz i) = 4 := (by rw [itK, if_neg w0, if_neg w1, if_neg w2, if_neg w3, if_neg w5, if_pos w4]); have X : stp (f 10) sz 601 (we (f 10) sz i) 0 = (true, tb (f 10) sz (tnN (f 10) sz j), b ||| ((1 : Int32) <<< ((tnV (f 10) sz j) &&& 31))) := (by rw [hst, hfu, stp, c2, if_pos rfl, pB_f (fun z => pB_not.mp c5 z.2), if_neg (by decide), bt1, if_pos (i_nle.mp c3)]); have E : itemS (f 10) sz i r = (pB (tkP (f 10) sz (tb (f 10) sz (tnN (f 10) sz j)) 59), tkN (f 10) sz (tb (f 10) sz (tnN (f 10) sz j)) 59, (r.1, b ||| ((1 : Int32) <<< ((tnV (f 10) sz j) &&& 31)), r.2.2)) := (by rw [itemS, if_neg (by rw [ek]; decide), if_neg (by rw [ek]; decide), X, if_pos rfl, if_pos ek]); ⟨_, _, rfl, by rw [E] <;> rfl, by rw [E] <;> rfl, fun k h1 h2 h3 => (by simp [upd, h1, h2, h3]; exact hn3 k h1 h2 h3), by rw [E]; exact zOK_use hz _⟩)
                                · have c_44 := c_44
                                  exact absurd c_44 (by decide)
                              · have c5 : (pB (md_in (f 10 (tb (f 10) sz (tnN (f 10) sz j))) 48 57)) = true := bI_1.mp c5
                                refine lv_iconst (v := (1 : Int32)) hx hb dX8_item_195 (by decide) ?_
                                refine lv_goto (tgt := 200) hx hb dX8_item_196 (by decide) ?_
                                refine lv_istore (lv' := [(6, .int (1 : Int32)), (5, .int (b ||| ((1 : Int32) <<< ((tnV (f 10) sz j) &&& 31)))), (0, .ref h), (1, .int (nI z)), (2, .long (wd (f 10) sz i))]) hx hb dX8_item_200 hl (by decide) rfl (fun ls hl => ?_)
                                refine lv_goto (tgt := 131) hx hb dX8_item_202 (by decide) ?_
                                refine lv_iload hx hb dX8_item_131 (lv_at hl 0 rfl) ?_
                                refine lv_if_eq (tgt := 205) hx hb dX8_item_133 (by decide) (fun c_48 => ?_) (fun c_48 => ?_)
                                · have c_48 := c_48
                                  exact absurd c_48 (by decide)
                                · have c_48 := c_48
                                  exact ih (tb (f 10) sz (tnN (f 10) sz j)) (b ||| ((1 : Int32) <<< ((tnV (f 10) sz j) &&& 31))) (fu - 1) (upd (upd (upd n3 13 (nI (tnN (f 10) sz j))) 22 (tnV (f 10) sz j)) 13 (nI (tb (f 10) sz (tnN (f 10) sz j)))) ls _ _ (by omega) (by omega) (by omega) rfl h12 (fun k h1 h2 h3 => (by simp [upd, h1, h2, h3]; exact hn3 k h1 h2 h3)) (by rw [hst, hfu, stp, c2, if_pos rfl, pB_t ⟨c4, pB_iff.mp c5⟩, if_pos rfl, bt1, if_pos (i_nle.mp c3)]; rfl) hM hS (lv_sub hl [2, 3, 4, 1] rfl)
                        · have c2 : (pB (tnP (f 10) sz j)) = false := bI_0.mp c2
                          refine lv_iconst (v := (0 : Int32)) hx hb dX8_item_143 (by decide) ?_
                          exact mp_zret hx hb hr hlocks (Nat.le_of_ble_eq_true rfl) (Nat.le_of_ble_eq_true rfl) hM hS dX8_item_144 (by first | rfl | exact bI_nar _) (have ek : itK (wd (f 10) sz i) = 4 := (by rw [itK, if_neg w0, if_neg w1, if_neg w2, if_neg w3, if_neg w5, if_pos w4]); have E : itemS (f 10) sz i r = (false, (stp (f 10) sz 601 (we (f 10) sz i) 0).2.1, r) := (by rw [itemS, if_neg (by rw [ek]; decide), if_neg (by rw [ek]; decide), if_neg (by rw [hst, hfu, stp, c2]; exact Bool.false_ne_true)]); ⟨_, _, rfl, by rw [E]; rfl, by rw [E, hst, hfu, stp, c2]; rfl, fun k h1 h2 h3 => (by simp [upd, h1, h2, h3]; exact hn3 k h1 h2 h3), by rw [E]; exact zOK_same hz⟩)
                    exact LP136_4 _ (we (f 10) sz i) 0 601 (upd (upd (upd n 13 (nI (tb (f 10) sz i))) 21 (nI (we (f 10) sz i))) 13 (nI (we (f 10) sz i))) ls _ _ (Nat.lt_succ_self _) (by omega) (by omega) rfl hsz (fun k h1 h2 h3 => by simp [upd, h1, h2, h3]) rfl hM hS (lv_sub hl [4, 5, 3, 1] rfl)
                · have c_26 := c_26
                  exact absurd c_26 (by decide)
              · have w4 := fun q => w4 ((lg_cmp_eq _ _).mpr q)
                refine lv_iconst (v := (0 : Int32)) hx hb dX8_item_78 (by decide) ?_
                exact mp_zret hx hb hr hlocks (Nat.le_of_ble_eq_true rfl) (Nat.le_of_ble_eq_true rfl) hM hS dX8_item_79 (by first | rfl | exact bI_nar _) (have ek : itK (wd (f 10) sz i) = 6 := (by rw [itK, if_neg w0, if_neg w1, if_neg w2, if_neg w3, if_neg w5, if_neg w4]); have E : itemS (f 10) sz i r = (false, tb (f 10) sz i, r) := (by rw [itemS, if_pos ek]); ⟨_, _, rfl, by rw [E]; rfl, by rw [E]; rfl, fun k h1 h2 h3 => by simp [upd, h1, h2, h3], by rw [E]; exact zOK_same hz⟩)
        · have w3 := (lg_cmp_eq _ _).mp w3
          refine lv_iconst (v := (3 : Int32)) hx hb dX8_item_49 (by decide) ?_
          refine lv_goto (tgt := 54) hx hb dX8_item_50 (by decide) ?_
          refine lv_istore (lv' := [(4, .int (3 : Int32)), (2, .long (wd (f 10) sz i)), (0, .ref h), (1, .int (nI z))]) hx hb dX8_item_54 hl (by decide) rfl (fun ls hl => ?_)
          refine lv_iload hx hb dX8_item_56 (lv_at hl 0 rfl) ?_
          refine lv_iconst (v := (4 : Int32)) hx hb dX8_item_58 (by decide) ?_
          refine lv_icmp_ne (tgt := 80) hx hb dX8_item_59 (by decide) (fun c_49 => ?_) (fun c_49 => ?_)
          · have c_49 := c_49
            refine lv_aload_n hx hb dX8_item_80 rfl (lv_at hl 2 rfl) ?_
            refine lv_aload_n hx hb dX8_item_81 rfl (lv_at hl 2 rfl) ?_
            refine md_geti hx hb hts hin_wsX80 hown hC hM 21 (by decide) rfl fl_176 dX8_item_82 ?_
            refine mp_top (nI (we (f 10) sz i)) rfl ?_
            refine md_puti hx hb hts hin_wsX80 hown hC hM hS 13 (by decide) rfl rfl rfl fl_167 dX8_item_85 (fun H locs hM hS => ?_)
            refine lv_iload hx hb dX8_item_88 (lv_at hl 0 rfl) ?_
            refine lv_iconst (v := (4 : Int32)) hx hb dX8_item_90 (by decide) ?_
            refine lv_icmp_ge (tgt := 125) hx hb dX8_item_91 (by decide) (fun c_50 => ?_) (fun c_50 => ?_)
            · have c_50 := c_50
              exact absurd c_50 (by decide)
            · have c_50 := c_50
              refine lv_aload_n hx hb dX8_item_94 rfl (lv_at hl 2 rfl) ?_
              have hb_51 := tn_in (t := (f 10)) (sz := sz) (i := we (f 10) sz i) (by omega)
              refine mp_calli (va_runV (As := []) (rest := []) ⟨hx, hb, hml, hown, hts⟩ (c_X8_takesNumber l X G A B h ad (upd (upd (upd n 13 (nI (tb (f 10) sz i))) 21 (nI (we (f 10) sz i))) 13 (nI (we (f 10) sz i))) f sz (we (f 10) sz i) hsz (by omega) rfl (by omega)) (cwV 0 hts gX8_item_X8_takesNumber rfl rfl rfl (by decide +kernel) ⟨Nat.le_of_ble_eq_true rfl, Nat.le_of_ble_eq_true rfl⟩) (mp_preV hC hS hM (md_recv hC hM)) rfl rfl hl.1 rfl (lv_room (Nat.le_of_ble_eq_true rfl)) dX8_item_95 ⟨Nat.le_of_ble_eq_true rfl, Nat.le_of_ble_eq_true rfl⟩) hS (fun H locs hM hS => ?_)
              refine lv_if_ne (tgt := 103) hx hb dX8_item_98 (by decide) (fun c1 => ?_) (fun c1 => ?_)
              · have c1 : (pB (tnP (f 10) sz (we (f 10) sz i))) = true := bI_1.mp c1
                refine lv_aload_n hx hb dX8_item_103 rfl (lv_at hl 2 rfl) ?_
                refine md_getr hx hb hts hin_wsX80 hown hC hM 20 (by decide) rfl fl_45 dX8_item_104 ?_
                refine lv_iconst (v := (4 : Int32)) hx hb dX8_item_107 (by decide) ?_
                refine lv_iload_n hx hb dX8_item_108 rfl (lv_at hl 3 rfl) ?_
                refine lv_imul hx hb dX8_item_109 ?_
                refine mp_top (nI (4 * z)) (pk_mul 4 z) ?_
                refine lv_iload hx hb dX8_item_110 (lv_at hl 0 rfl) ?_
                refine lv_iadd hx hb dX8_item_112 ?_
                refine mp_top (nI ((4 * z) + 3)) (nI_add (4 * z) 3) ?_
                refine lv_aload_n hx hb dX8_item_113 rfl (lv_at hl 2 rfl) ?_
                refine md_geti hx hb hts hin_wsX80 hown hC hM 22 (by decide) rfl fl_182 dX8_item_114 ?_
                refine mp_top (tnV (f 10) sz (we (f 10) sz i)) rfl ?_
                refine md_iast hx hb hC hM hS 20 rfl (j := (4 * z) + 3) (by omega) (by decide) dX8_item_117 (fun H locs hM hS => ?_)
                have hM : mp_P G.1 A (md_M G B h ad (upd (upd (upd (upd (upd n 13 (nI (tb (f 10) sz i))) 21 (nI (we (f 10) sz i))) 13 (nI (we (f 10) sz i))) 13 (nI (tnN (f 10) sz (we (f 10) sz i)))) 22 (tnV (f 10) sz (we (f 10) sz i))) (va_up f 20 (upd (f 20) ((4 * z) + 3) (tnV (f 10) sz (we (f 10) sz i))))) H := hM
                refine lv_aload_n hx hb dX8_item_118 rfl (lv_at hl 2 rfl) ?_
                refine lv_bipush (v := (59 : Int32)) hx hb dX8_item_119 (by decide) ?_
                have hb_52 := tk_in (t := (f 10)) (sz := sz) (i := tnN (f 10) sz (we (f 10) sz i)) (59 : Int32) (by omega)
                have hb_53 := tb_in (t := (f 10)) (sz := sz) (i := tnN (f 10) sz (we (f 10) sz i)) (by omega)
                refine mp_calli (va_runV (As := [.int (59 : Int32)]) (rest := []) ⟨hx, hb, hml, hown, hts⟩ (c_X8_takes l X G A B h ad (upd (upd (upd (upd (upd n 13 (nI (tb (f 10) sz i))) 21 (nI (we (f 10) sz i))) 13 (nI (we (f 10) sz i))) 13 (nI (tnN (f 10) sz (we (f 10) sz i)))) 22 (tnV (f 10) sz (we (f 10) sz i))) (va_up f 20 (upd (f 20) ((4 * z) + 3) (tnV (f 10) sz (we (f 10) sz i)))) sz (tnN (f 10) sz (we (f 10) sz i)) hsz (by omega) rfl (by omega) (59 : Int32)) (cwV 1 hts gX8_item_X8_takes rfl rfl rfl (by decide +kernel) ⟨Nat.le_of_ble_eq_true rfl, Nat.le_of_ble_eq_true rfl⟩) (mp_preV hC hS hM (md_recv hC hM)) rfl rfl hl.1 rfl (lv_room (Nat.le_of_ble_eq_true rfl)) dX8_item_121 ⟨Nat.le_of_ble_eq_true rfl, Nat.le_of_ble_eq_true rfl⟩) hS (fun H locs hM hS => ?_)
                exact mp_zret hx hb hr hlocks (Nat.le_of_ble_eq_true rfl) (Nat.le_of_ble_eq_true rfl) hM hS dX8_item_124 (bI_nar _) (have ek : itK (wd (f 10) sz i) = 3 := (by rw [itK, if_neg w0, if_neg w1, if_neg w2, if_pos w3]); have E : itemS (f 10) sz i r = (pB (tkP (f 10) sz (tnN (f 10) sz (we (f 10) sz i)) 59), tkN (f 10) sz (tnN (f 10) sz (we (f 10) sz i)) 59, (r.1, r.2.1, upd r.2.2 3 (tnV (f 10) sz (we (f 10) sz i)))) := (by rw [itemS, if_neg (by rw [ek]; decide), if_pos (by rw [ek]; decide), c1, if_pos rfl, ek]); ⟨_, _, rfl, by rw [E] <;> rfl, by rw [E] <;> rfl, fun k h1 h2 h3 => by simp [upd, h1, h2, h3], by rw [E]; exact zOK_num hz (by decide) _⟩)
              · have c1 : (pB (tnP (f 10) sz (we (f 10) sz i))) = false := bI_0.mp c1
                refine lv_iconst (v := (0 : Int32)) hx hb dX8_item_101 (by decide) ?_
                exact mp_zret hx hb hr hlocks (Nat.le_of_ble_eq_true rfl) (Nat.le_of_ble_eq_true rfl) hM hS dX8_item_102 (by first | rfl | exact bI_nar _) (have ek : itK (wd (f 10) sz i) = 3 := (by rw [itK, if_neg w0, if_neg w1, if_neg w2, if_pos w3]); have E : itemS (f 10) sz i r = (false, tnN (f 10) sz (we (f 10) sz i), r) := (by rw [itemS, if_neg (by rw [ek]; decide), if_pos (by rw [ek]; decide), c1]; rfl); ⟨_, _, rfl, by rw [E]; rfl, by rw [E]; rfl, fun k h1 h2 h3 => by simp [upd, h1, h2, h3], by rw [E]; exact zOK_same hz⟩)
          · have c_49 := c_49
            exact absurd c_49 (by decide)
      · have w2 := (lg_cmp_eq _ _).mp w2
        refine lv_iconst (v := (2 : Int32)) hx hb dX8_item_37 (by decide) ?_
        refine lv_goto (tgt := 54) hx hb dX8_item_38 (by decide) ?_
        refine lv_istore (lv' := [(4, .int (2 : Int32)), (2, .long (wd (f 10) sz i)), (0, .ref h), (1, .int (nI z))]) hx hb dX8_item_54 hl (by decide) rfl (fun ls hl => ?_)
        refine lv_iload hx hb dX8_item_56 (lv_at hl 0 rfl) ?_
        refine lv_iconst (v := (4 : Int32)) hx hb dX8_item_58 (by decide) ?_
        refine lv_icmp_ne (tgt := 80) hx hb dX8_item_59 (by decide) (fun c_54 => ?_) (fun c_54 => ?_)
        · have c_54 := c_54
          refine lv_aload_n hx hb dX8_item_80 rfl (lv_at hl 2 rfl) ?_
          refine lv_aload_n hx hb dX8_item_81 rfl (lv_at hl 2 rfl) ?_
          refine md_geti hx hb hts hin_wsX80 hown hC hM 21 (by decide) rfl fl_176 dX8_item_82 ?_
          refine mp_top (nI (we (f 10) sz i)) rfl ?_
          refine md_puti hx hb hts hin_wsX80 hown hC hM hS 13 (by decide) rfl rfl rfl fl_167 dX8_item_85 (fun H locs hM hS => ?_)
          refine lv_iload hx hb dX8_item_88 (lv_at hl 0 rfl) ?_
          refine lv_iconst (v := (4 : Int32)) hx hb dX8_item_90 (by decide) ?_
          refine lv_icmp_ge (tgt := 125) hx hb dX8_item_91 (by decide) (fun c_55 => ?_) (fun c_55 => ?_)
          · have c_55 := c_55
            exact absurd c_55 (by decide)
          · have c_55 := c_55
            refine lv_aload_n hx hb dX8_item_94 rfl (lv_at hl 2 rfl) ?_
            have hb_56 := tn_in (t := (f 10)) (sz := sz) (i := we (f 10) sz i) (by omega)
            refine mp_calli (va_runV (As := []) (rest := []) ⟨hx, hb, hml, hown, hts⟩ (c_X8_takesNumber l X G A B h ad (upd (upd (upd n 13 (nI (tb (f 10) sz i))) 21 (nI (we (f 10) sz i))) 13 (nI (we (f 10) sz i))) f sz (we (f 10) sz i) hsz (by omega) rfl (by omega)) (cwV 0 hts gX8_item_X8_takesNumber rfl rfl rfl (by decide +kernel) ⟨Nat.le_of_ble_eq_true rfl, Nat.le_of_ble_eq_true rfl⟩) (mp_preV hC hS hM (md_recv hC hM)) rfl rfl hl.1 rfl (lv_room (Nat.le_of_ble_eq_true rfl)) dX8_item_95 ⟨Nat.le_of_ble_eq_true rfl, Nat.le_of_ble_eq_true rfl⟩) hS (fun H locs hM hS => ?_)
            refine lv_if_ne (tgt := 103) hx hb dX8_item_98 (by decide) (fun c1 => ?_) (fun c1 => ?_)
            · have c1 : (pB (tnP (f 10) sz (we (f 10) sz i))) = true := bI_1.mp c1
              refine lv_aload_n hx hb dX8_item_103 rfl (lv_at hl 2 rfl) ?_
              refine md_getr hx hb hts hin_wsX80 hown hC hM 20 (by decide) rfl fl_45 dX8_item_104 ?_
              refine lv_iconst (v := (4 : Int32)) hx hb dX8_item_107 (by decide) ?_
              refine lv_iload_n hx hb dX8_item_108 rfl (lv_at hl 3 rfl) ?_
              refine lv_imul hx hb dX8_item_109 ?_
              refine mp_top (nI (4 * z)) (pk_mul 4 z) ?_
              refine lv_iload hx hb dX8_item_110 (lv_at hl 0 rfl) ?_
              refine lv_iadd hx hb dX8_item_112 ?_
              refine mp_top (nI ((4 * z) + 2)) (nI_add (4 * z) 2) ?_
              refine lv_aload_n hx hb dX8_item_113 rfl (lv_at hl 2 rfl) ?_
              refine md_geti hx hb hts hin_wsX80 hown hC hM 22 (by decide) rfl fl_182 dX8_item_114 ?_
              refine mp_top (tnV (f 10) sz (we (f 10) sz i)) rfl ?_
              refine md_iast hx hb hC hM hS 20 rfl (j := (4 * z) + 2) (by omega) (by decide) dX8_item_117 (fun H locs hM hS => ?_)
              have hM : mp_P G.1 A (md_M G B h ad (upd (upd (upd (upd (upd n 13 (nI (tb (f 10) sz i))) 21 (nI (we (f 10) sz i))) 13 (nI (we (f 10) sz i))) 13 (nI (tnN (f 10) sz (we (f 10) sz i)))) 22 (tnV (f 10) sz (we (f 10) sz i))) (va_up f 20 (upd (f 20) ((4 * z) + 2) (tnV (f 10) sz (we (f 10) sz i))))) H := hM
              refine lv_aload_n hx hb dX8_item_118 rfl (lv_at hl 2 rfl) ?_
              refine lv_bipush (v := (59 : Int32)) hx hb dX8_item_119 (by decide) ?_
              have hb_57 := tk_in (t := (f 10)) (sz := sz) (i := tnN (f 10) sz (we (f 10) sz i)) (59 : Int32) (by omega)
              have hb_58 := tb_in (t := (f 10)) (sz := sz) (i := tnN (f 10) sz (we (f 10) sz i)) (by omega)
              refine mp_calli (va_runV (As := [.int (59 : Int32)]) (rest := []) ⟨hx, hb, hml, hown, hts⟩ (c_X8_takes l X G A B h ad (upd (upd (upd (upd (upd n 13 (nI (tb (f 10) sz i))) 21 (nI (we (f 10) sz i))) 13 (nI (we (f 10) sz i))) 13 (nI (tnN (f 10) sz (we (f 10) sz i)))) 22 (tnV (f 10) sz (we (f 10) sz i))) (va_up f 20 (upd (f 20) ((4 * z) + 2) (tnV (f 10) sz (we (f 10) sz i)))) sz (tnN (f 10) sz (we (f 10) sz i)) hsz (by omega) rfl (by omega) (59 : Int32)) (cwV 1 hts gX8_item_X8_takes rfl rfl rfl (by decide +kernel) ⟨Nat.le_of_ble_eq_true rfl, Nat.le_of_ble_eq_true rfl⟩) (mp_preV hC hS hM (md_recv hC hM)) rfl rfl hl.1 rfl (lv_room (Nat.le_of_ble_eq_true rfl)) dX8_item_121 ⟨Nat.le_of_ble_eq_true rfl, Nat.le_of_ble_eq_true rfl⟩) hS (fun H locs hM hS => ?_)
              exact mp_zret hx hb hr hlocks (Nat.le_of_ble_eq_true rfl) (Nat.le_of_ble_eq_true rfl) hM hS dX8_item_124 (bI_nar _) (have ek : itK (wd (f 10) sz i) = 2 := (by rw [itK, if_neg w0, if_neg w1, if_pos w2]); have E : itemS (f 10) sz i r = (pB (tkP (f 10) sz (tnN (f 10) sz (we (f 10) sz i)) 59), tkN (f 10) sz (tnN (f 10) sz (we (f 10) sz i)) 59, (r.1, r.2.1, upd r.2.2 2 (tnV (f 10) sz (we (f 10) sz i)))) := (by rw [itemS, if_neg (by rw [ek]; decide), if_pos (by rw [ek]; decide), c1, if_pos rfl, ek]); ⟨_, _, rfl, by rw [E] <;> rfl, by rw [E] <;> rfl, fun k h1 h2 h3 => by simp [upd, h1, h2, h3], by rw [E]; exact zOK_num hz (by decide) _⟩)
            · have c1 : (pB (tnP (f 10) sz (we (f 10) sz i))) = false := bI_0.mp c1
              refine lv_iconst (v := (0 : Int32)) hx hb dX8_item_101 (by decide) ?_
              exact mp_zret hx hb hr hlocks (Nat.le_of_ble_eq_true rfl) (Nat.le_of_ble_eq_true rfl) hM hS dX8_item_102 (by first | rfl | exact bI_nar _) (have ek : itK (wd (f 10) sz i) = 2 := (by rw [itK, if_neg w0, if_neg w1, if_pos w2]); have E : itemS (f 10) sz i r = (false, tnN (f 10) sz (we (f 10) sz i), r) := (by rw [itemS, if_neg (by rw [ek]; decide), if_pos (by rw [ek]; decide), c1]; rfl); ⟨_, _, rfl, by rw [E]; rfl, by rw [E]; rfl, fun k h1 h2 h3 => by simp [upd, h1, h2, h3], by rw [E]; exact zOK_same hz⟩)
        · have c_54 := c_54
          exact absurd c_54 (by decide)
    · have w1 := (lg_cmp_eq _ _).mp w1
      refine lv_iconst (v := (1 : Int32)) hx hb dX8_item_25 (by decide) ?_
      refine lv_goto (tgt := 54) hx hb dX8_item_26 (by decide) ?_
      refine lv_istore (lv' := [(4, .int (1 : Int32)), (2, .long (wd (f 10) sz i)), (0, .ref h), (1, .int (nI z))]) hx hb dX8_item_54 hl (by decide) rfl (fun ls hl => ?_)
      refine lv_iload hx hb dX8_item_56 (lv_at hl 0 rfl) ?_
      refine lv_iconst (v := (4 : Int32)) hx hb dX8_item_58 (by decide) ?_
      refine lv_icmp_ne (tgt := 80) hx hb dX8_item_59 (by decide) (fun c_59 => ?_) (fun c_59 => ?_)
      · have c_59 := c_59
        refine lv_aload_n hx hb dX8_item_80 rfl (lv_at hl 2 rfl) ?_
        refine lv_aload_n hx hb dX8_item_81 rfl (lv_at hl 2 rfl) ?_
        refine md_geti hx hb hts hin_wsX80 hown hC hM 21 (by decide) rfl fl_176 dX8_item_82 ?_
        refine mp_top (nI (we (f 10) sz i)) rfl ?_
        refine md_puti hx hb hts hin_wsX80 hown hC hM hS 13 (by decide) rfl rfl rfl fl_167 dX8_item_85 (fun H locs hM hS => ?_)
        refine lv_iload hx hb dX8_item_88 (lv_at hl 0 rfl) ?_
        refine lv_iconst (v := (4 : Int32)) hx hb dX8_item_90 (by decide) ?_
        refine lv_icmp_ge (tgt := 125) hx hb dX8_item_91 (by decide) (fun c_60 => ?_) (fun c_60 => ?_)
        · have c_60 := c_60
          exact absurd c_60 (by decide)
        · have c_60 := c_60
          refine lv_aload_n hx hb dX8_item_94 rfl (lv_at hl 2 rfl) ?_
          have hb_61 := tn_in (t := (f 10)) (sz := sz) (i := we (f 10) sz i) (by omega)
          refine mp_calli (va_runV (As := []) (rest := []) ⟨hx, hb, hml, hown, hts⟩ (c_X8_takesNumber l X G A B h ad (upd (upd (upd n 13 (nI (tb (f 10) sz i))) 21 (nI (we (f 10) sz i))) 13 (nI (we (f 10) sz i))) f sz (we (f 10) sz i) hsz (by omega) rfl (by omega)) (cwV 0 hts gX8_item_X8_takesNumber rfl rfl rfl (by decide +kernel) ⟨Nat.le_of_ble_eq_true rfl, Nat.le_of_ble_eq_true rfl⟩) (mp_preV hC hS hM (md_recv hC hM)) rfl rfl hl.1 rfl (lv_room (Nat.le_of_ble_eq_true rfl)) dX8_item_95 ⟨Nat.le_of_ble_eq_true rfl, Nat.le_of_ble_eq_true rfl⟩) hS (fun H locs hM hS => ?_)
          refine lv_if_ne (tgt := 103) hx hb dX8_item_98 (by decide) (fun c1 => ?_) (fun c1 => ?_)
          · have c1 : (pB (tnP (f 10) sz (we (f 10) sz i))) = true := bI_1.mp c1
            refine lv_aload_n hx hb dX8_item_103 rfl (lv_at hl 2 rfl) ?_
            refine md_getr hx hb hts hin_wsX80 hown hC hM 20 (by decide) rfl fl_45 dX8_item_104 ?_
            refine lv_iconst (v := (4 : Int32)) hx hb dX8_item_107 (by decide) ?_
            refine lv_iload_n hx hb dX8_item_108 rfl (lv_at hl 3 rfl) ?_
            refine lv_imul hx hb dX8_item_109 ?_
            refine mp_top (nI (4 * z)) (pk_mul 4 z) ?_
            refine lv_iload hx hb dX8_item_110 (lv_at hl 0 rfl) ?_
            refine lv_iadd hx hb dX8_item_112 ?_
            refine mp_top (nI ((4 * z) + 1)) (nI_add (4 * z) 1) ?_
            refine lv_aload_n hx hb dX8_item_113 rfl (lv_at hl 2 rfl) ?_
            refine md_geti hx hb hts hin_wsX80 hown hC hM 22 (by decide) rfl fl_182 dX8_item_114 ?_
            refine mp_top (tnV (f 10) sz (we (f 10) sz i)) rfl ?_
            refine md_iast hx hb hC hM hS 20 rfl (j := (4 * z) + 1) (by omega) (by decide) dX8_item_117 (fun H locs hM hS => ?_)
            have hM : mp_P G.1 A (md_M G B h ad (upd (upd (upd (upd (upd n 13 (nI (tb (f 10) sz i))) 21 (nI (we (f 10) sz i))) 13 (nI (we (f 10) sz i))) 13 (nI (tnN (f 10) sz (we (f 10) sz i)))) 22 (tnV (f 10) sz (we (f 10) sz i))) (va_up f 20 (upd (f 20) ((4 * z) + 1) (tnV (f 10) sz (we (f 10) sz i))))) H := hM
            refine lv_aload_n hx hb dX8_item_118 rfl (lv_at hl 2 rfl) ?_
            refine lv_bipush (v := (59 : Int32)) hx hb dX8_item_119 (by decide) ?_
            have hb_62 := tk_in (t := (f 10)) (sz := sz) (i := tnN (f 10) sz (we (f 10) sz i)) (59 : Int32) (by omega)
            have hb_63 := tb_in (t := (f 10)) (sz := sz) (i := tnN (f 10) sz (we (f 10) sz i)) (by omega)
            refine mp_calli (va_runV (As := [.int (59 : Int32)]) (rest := []) ⟨hx, hb, hml, hown, hts⟩ (c_X8_takes l X G A B h ad (upd (upd (upd (upd (upd n 13 (nI (tb (f 10) sz i))) 21 (nI (we (f 10) sz i))) 13 (nI (we (f 10) sz i))) 13 (nI (tnN (f 10) sz (we (f 10) sz i)))) 22 (tnV (f 10) sz (we (f 10) sz i))) (va_up f 20 (upd (f 20) ((4 * z) + 1) (tnV (f 10) sz (we (f 10) sz i)))) sz (tnN (f 10) sz (we (f 10) sz i)) hsz (by omega) rfl (by omega) (59 : Int32)) (cwV 1 hts gX8_item_X8_takes rfl rfl rfl (by decide +kernel) ⟨Nat.le_of_ble_eq_true rfl, Nat.le_of_ble_eq_true rfl⟩) (mp_preV hC hS hM (md_recv hC hM)) rfl rfl hl.1 rfl (lv_room (Nat.le_of_ble_eq_true rfl)) dX8_item_121 ⟨Nat.le_of_ble_eq_true rfl, Nat.le_of_ble_eq_true rfl⟩) hS (fun H locs hM hS => ?_)
            exact mp_zret hx hb hr hlocks (Nat.le_of_ble_eq_true rfl) (Nat.le_of_ble_eq_true rfl) hM hS dX8_item_124 (bI_nar _) (have ek : itK (wd (f 10) sz i) = 1 := (by rw [itK, if_neg w0, if_pos w1]); have E : itemS (f 10) sz i r = (pB (tkP (f 10) sz (tnN (f 10) sz (we (f 10) sz i)) 59), tkN (f 10) sz (tnN (f 10) sz (we (f 10) sz i)) 59, (r.1, r.2.1, upd r.2.2 1 (tnV (f 10) sz (we (f 10) sz i)))) := (by rw [itemS, if_neg (by rw [ek]; decide), if_pos (by rw [ek]; decide), c1, if_pos rfl, ek]); ⟨_, _, rfl, by rw [E] <;> rfl, by rw [E] <;> rfl, fun k h1 h2 h3 => by simp [upd, h1, h2, h3], by rw [E]; exact zOK_num hz (by decide) _⟩)
          · have c1 : (pB (tnP (f 10) sz (we (f 10) sz i))) = false := bI_0.mp c1
            refine lv_iconst (v := (0 : Int32)) hx hb dX8_item_101 (by decide) ?_
            exact mp_zret hx hb hr hlocks (Nat.le_of_ble_eq_true rfl) (Nat.le_of_ble_eq_true rfl) hM hS dX8_item_102 (by first | rfl | exact bI_nar _) (have ek : itK (wd (f 10) sz i) = 1 := (by rw [itK, if_neg w0, if_pos w1]); have E : itemS (f 10) sz i r = (false, tnN (f 10) sz (we (f 10) sz i), r) := (by rw [itemS, if_neg (by rw [ek]; decide), if_pos (by rw [ek]; decide), c1]; rfl); ⟨_, _, rfl, by rw [E]; rfl, by rw [E]; rfl, fun k h1 h2 h3 => by simp [upd, h1, h2, h3], by rw [E]; exact zOK_same hz⟩)
      · have c_59 := c_59
        exact absurd c_59 (by decide)
  · have w0 := (lg_cmp_eq _ _).mp w0
    refine lv_iconst (v := (0 : Int32)) hx hb dX8_item_13 (by decide) ?_
    refine lv_goto (tgt := 54) hx hb dX8_item_14 (by decide) ?_
    refine lv_istore (lv' := [(4, .int (0 : Int32)), (2, .long (wd (f 10) sz i)), (0, .ref h), (1, .int (nI z))]) hx hb dX8_item_54 hl (by decide) rfl (fun ls hl => ?_)
    refine lv_iload hx hb dX8_item_56 (lv_at hl 0 rfl) ?_
    refine lv_iconst (v := (4 : Int32)) hx hb dX8_item_58 (by decide) ?_
    refine lv_icmp_ne (tgt := 80) hx hb dX8_item_59 (by decide) (fun c_64 => ?_) (fun c_64 => ?_)
    · have c_64 := c_64
      refine lv_aload_n hx hb dX8_item_80 rfl (lv_at hl 2 rfl) ?_
      refine lv_aload_n hx hb dX8_item_81 rfl (lv_at hl 2 rfl) ?_
      refine md_geti hx hb hts hin_wsX80 hown hC hM 21 (by decide) rfl fl_176 dX8_item_82 ?_
      refine mp_top (nI (we (f 10) sz i)) rfl ?_
      refine md_puti hx hb hts hin_wsX80 hown hC hM hS 13 (by decide) rfl rfl rfl fl_167 dX8_item_85 (fun H locs hM hS => ?_)
      refine lv_iload hx hb dX8_item_88 (lv_at hl 0 rfl) ?_
      refine lv_iconst (v := (4 : Int32)) hx hb dX8_item_90 (by decide) ?_
      refine lv_icmp_ge (tgt := 125) hx hb dX8_item_91 (by decide) (fun c_65 => ?_) (fun c_65 => ?_)
      · have c_65 := c_65
        exact absurd c_65 (by decide)
      · have c_65 := c_65
        refine lv_aload_n hx hb dX8_item_94 rfl (lv_at hl 2 rfl) ?_
        have hb_66 := tn_in (t := (f 10)) (sz := sz) (i := we (f 10) sz i) (by omega)
        refine mp_calli (va_runV (As := []) (rest := []) ⟨hx, hb, hml, hown, hts⟩ (c_X8_takesNumber l X G A B h ad (upd (upd (upd n 13 (nI (tb (f 10) sz i))) 21 (nI (we (f 10) sz i))) 13 (nI (we (f 10) sz i))) f sz (we (f 10) sz i) hsz (by omega) rfl (by omega)) (cwV 0 hts gX8_item_X8_takesNumber rfl rfl rfl (by decide +kernel) ⟨Nat.le_of_ble_eq_true rfl, Nat.le_of_ble_eq_true rfl⟩) (mp_preV hC hS hM (md_recv hC hM)) rfl rfl hl.1 rfl (lv_room (Nat.le_of_ble_eq_true rfl)) dX8_item_95 ⟨Nat.le_of_ble_eq_true rfl, Nat.le_of_ble_eq_true rfl⟩) hS (fun H locs hM hS => ?_)
        refine lv_if_ne (tgt := 103) hx hb dX8_item_98 (by decide) (fun c1 => ?_) (fun c1 => ?_)
        · have c1 : (pB (tnP (f 10) sz (we (f 10) sz i))) = true := bI_1.mp c1
          refine lv_aload_n hx hb dX8_item_103 rfl (lv_at hl 2 rfl) ?_
          refine md_getr hx hb hts hin_wsX80 hown hC hM 20 (by decide) rfl fl_45 dX8_item_104 ?_
          refine lv_iconst (v := (4 : Int32)) hx hb dX8_item_107 (by decide) ?_
          refine lv_iload_n hx hb dX8_item_108 rfl (lv_at hl 3 rfl) ?_
          refine lv_imul hx hb dX8_item_109 ?_
          refine mp_top (nI (4 * z)) (pk_mul 4 z) ?_
          refine lv_iload hx hb dX8_item_110 (lv_at hl 0 rfl) ?_
          refine lv_iadd hx hb dX8_item_112 ?_
          refine mp_top (nI ((4 * z) + 0)) (nI_add (4 * z) 0) ?_
          refine lv_aload_n hx hb dX8_item_113 rfl (lv_at hl 2 rfl) ?_
          refine md_geti hx hb hts hin_wsX80 hown hC hM 22 (by decide) rfl fl_182 dX8_item_114 ?_
          refine mp_top (tnV (f 10) sz (we (f 10) sz i)) rfl ?_
          refine md_iast hx hb hC hM hS 20 rfl (j := (4 * z) + 0) (by omega) (by decide) dX8_item_117 (fun H locs hM hS => ?_)
          have hM : mp_P G.1 A (md_M G B h ad (upd (upd (upd (upd (upd n 13 (nI (tb (f 10) sz i))) 21 (nI (we (f 10) sz i))) 13 (nI (we (f 10) sz i))) 13 (nI (tnN (f 10) sz (we (f 10) sz i)))) 22 (tnV (f 10) sz (we (f 10) sz i))) (va_up f 20 (upd (f 20) ((4 * z) + 0) (tnV (f 10) sz (we (f 10) sz i))))) H := hM
          refine lv_aload_n hx hb dX8_item_118 rfl (lv_at hl 2 rfl) ?_
          refine lv_bipush (v := (59 : Int32)) hx hb dX8_item_119 (by decide) ?_
          have hb_67 := tk_in (t := (f 10)) (sz := sz) (i := tnN (f 10) sz (we (f 10) sz i)) (59 : Int32) (by omega)
          have hb_68 := tb_in (t := (f 10)) (sz := sz) (i := tnN (f 10) sz (we (f 10) sz i)) (by omega)
          refine mp_calli (va_runV (As := [.int (59 : Int32)]) (rest := []) ⟨hx, hb, hml, hown, hts⟩ (c_X8_takes l X G A B h ad (upd (upd (upd (upd (upd n 13 (nI (tb (f 10) sz i))) 21 (nI (we (f 10) sz i))) 13 (nI (we (f 10) sz i))) 13 (nI (tnN (f 10) sz (we (f 10) sz i)))) 22 (tnV (f 10) sz (we (f 10) sz i))) (va_up f 20 (upd (f 20) ((4 * z) + 0) (tnV (f 10) sz (we (f 10) sz i)))) sz (tnN (f 10) sz (we (f 10) sz i)) hsz (by omega) rfl (by omega) (59 : Int32)) (cwV 1 hts gX8_item_X8_takes rfl rfl rfl (by decide +kernel) ⟨Nat.le_of_ble_eq_true rfl, Nat.le_of_ble_eq_true rfl⟩) (mp_preV hC hS hM (md_recv hC hM)) rfl rfl hl.1 rfl (lv_room (Nat.le_of_ble_eq_true rfl)) dX8_item_121 ⟨Nat.le_of_ble_eq_true rfl, Nat.le_of_ble_eq_true rfl⟩) hS (fun H locs hM hS => ?_)
          exact mp_zret hx hb hr hlocks (Nat.le_of_ble_eq_true rfl) (Nat.le_of_ble_eq_true rfl) hM hS dX8_item_124 (bI_nar _) (have ek : itK (wd (f 10) sz i) = 0 := (by rw [itK, if_pos w0]); have E : itemS (f 10) sz i r = (pB (tkP (f 10) sz (tnN (f 10) sz (we (f 10) sz i)) 59), tkN (f 10) sz (tnN (f 10) sz (we (f 10) sz i)) 59, (r.1, r.2.1, upd r.2.2 0 (tnV (f 10) sz (we (f 10) sz i)))) := (by rw [itemS, if_neg (by rw [ek]; decide), if_pos (by rw [ek]; decide), c1, if_pos rfl, ek]); ⟨_, _, rfl, by rw [E] <;> rfl, by rw [E] <;> rfl, fun k h1 h2 h3 => by simp [upd, h1, h2, h3], by rw [E]; exact zOK_num hz (by decide) _⟩)
        · have c1 : (pB (tnP (f 10) sz (we (f 10) sz i))) = false := bI_0.mp c1
          refine lv_iconst (v := (0 : Int32)) hx hb dX8_item_101 (by decide) ?_
          exact mp_zret hx hb hr hlocks (Nat.le_of_ble_eq_true rfl) (Nat.le_of_ble_eq_true rfl) hM hS dX8_item_102 (by first | rfl | exact bI_nar _) (have ek : itK (wd (f 10) sz i) = 0 := (by rw [itK, if_pos w0]); have E : itemS (f 10) sz i r = (false, tnN (f 10) sz (we (f 10) sz i), r) := (by rw [itemS, if_neg (by rw [ek]; decide), if_pos (by rw [ek]; decide), c1]; rfl); ⟨_, _, rfl, by rw [E]; rfl, by rw [E]; rfl, fun k h1 h2 h3 => by simp [upd, h1, h2, h3], by rw [E]; exact zOK_same hz⟩)
    · have c_64 := c_64
      exact absurd c_64 (by decide)
