/-! ===== text constants; a plan's reader: its signs and steps ===== -/
def sB (k j : Nat) : Int32 := (mp_byt.getD k []).getD j 0
def sL (k : Nat) : Nat := mp_len.getD k 0
theorem sL_le : ∀ k, k < 10 → sL k ≤ 6 := by decide
theorem sB_ch0 : ∀ k, k < 10 → ∀ j, j < 6 → ((sB k j &&& 255).toUInt32 % 65536).toInt32 = sB k j := by decide
theorem sB_nr0 : ∀ k, k < 10 → ∀ j, j < 6 → narrow .char (.int (sB k j)) = .int (sB k j) := by decide
theorem sB_ch {k j : Nat} (hk : k < 10) (hj : j < sL k) : ((sB k j &&& 255).toUInt32 % 65536).toInt32 = sB k j := sB_ch0 k hk j (by have := sL_le k hk; omega)
theorem sB_nr {k j : Nat} (hk : k < 10) (hj : j < sL k) : narrow .char (.int (sB k j)) = .int (sB k j) := sB_nr0 k hk j (by have := sL_le k hk; omega)
theorem sh_0 {n : Nat} (h : n < 2 ^ 31) : nI n >>> ((0 : Int32) &&& 31) = nI n := by
  have k := pk_shrN (n := n) h ((0 : Int32) &&& 31) 0 (by decide)
  rw [Nat.pow_zero, Nat.div_one] at k
  exact k
def hereP (t : Nat → Int32) (a e k : Nat) : Prop := e - a = sL k ∧ ∀ j, j < sL k → t (a + j) = sB k j
noncomputable def te (t : Nat → Int32) (sz i : Nat) : Nat := if pB (we t sz i ≠ tb t sz i) then we t sz i else if pB (dz t sz i ≠ tb t sz i) then dz t sz i else if pB (tb t sz i < sz) then tb t sz i + 1 else tb t sz i
theorem te_w {t : Nat → Int32} {sz i : Nat} (h : we t sz i ≠ tb t sz i) : te t sz i = we t sz i := by rw [te, pB_t h]; rfl
theorem te_d {t : Nat → Int32} {sz i : Nat} (h : we t sz i = tb t sz i) (h2 : dz t sz i ≠ tb t sz i) : te t sz i = dz t sz i := by rw [te, pB_f (fun z => z h), pB_t h2]; rfl
theorem te_1 {t : Nat → Int32} {sz i : Nat} (h : we t sz i = tb t sz i) (h2 : dz t sz i = tb t sz i) (h3 : tb t sz i < sz) : te t sz i = tb t sz i + 1 := by rw [te, pB_f (fun z => z h), pB_f (fun z => z h2), pB_t h3]; rfl
theorem te_0 {t : Nat → Int32} {sz i : Nat} (h : we t sz i = tb t sz i) (h2 : dz t sz i = tb t sz i) (h3 : ¬ tb t sz i < sz) : te t sz i = tb t sz i := by rw [te, pB_f (fun z => z h), pB_f (fun z => z h2), pB_f h3]; rfl
theorem te_in {t : Nat → Int32} {sz i : Nat} (h : i ≤ sz) : i ≤ tb t sz i ∧ tb t sz i ≤ te t sz i ∧ te t sz i ≤ sz := by
  have h1 := we_in (t := t) h
  have h2 := dz_in (t := t) h
  refine ⟨h1.1, ?_⟩
  by_cases c1 : we t sz i = tb t sz i
  · by_cases c2_ : dz t sz i = tb t sz i
    · by_cases c3 : tb t sz i < sz
      · rw [te_1 c1 c2_ c3]; omega
      · rw [te_0 c1 c2_ c3]; omega
    · rw [te_d c1 c2_]; omega
  · rw [te_w c1]; omega
set_option maxHeartbeats 4000000 in
set_option maxRecDepth 100000 in
theorem c_J3_checkIndex_8e157_r (l : Launch) (X : mp_X) (G : mp_G) (A : Nat → Prop) (M : mp_M) (q9 i n : Nat) (hi : i < n) (hn : n < 2 ^ 31) : mp_Met l X G A yJ3_checkIndex_8e157 wsJ3_checkIndex_8e157 rmJ3_checkIndex_8e157 ([.int (nI i), .int (nI n), .ref q9] : List Value) M (fun r M1 => r = some (.int (nI i)) ∧ M1 = M) 0 0 := by
  refine mp_ofW (cc := cJ3_checkIndex_8e157) (maxL := 3) (ret := (some .int)) (by decide) rfl (Nat.le_of_ble_eq_true rfl) ?_
  intro p e s m below meth c ls hx hb hr hts hown hlocks hnm hml hC hM hS hl
  have hl : lv_has ls 3 [(0, .int (nI i)), (1, .int (nI n)), (2, .ref q9)] := hl
  have hown : s.vm.findClass RJ3 = some m.cls := hown
  refine lv_iload_n hx hb dJ3_checkIndex_8e157_0 rfl (lv_at hl 0 rfl) ?_
  refine lv_if_lt (tgt := 9) hx hb dJ3_checkIndex_8e157_1 (by decide) (fun c_1 => ?_) (fun c_1 => ?_)
  · have c_1 := nn_lt (a := i) (b := 0) (by omega) (by omega) c_1
    exact absurd c_1 (Nat.not_lt_zero _)
  · have c_1 := nn_nlt (a := i) (b := 0) (by omega) (by omega) c_1
    refine lv_iload_n hx hb dJ3_checkIndex_8e157_4 rfl (lv_at hl 0 rfl) ?_
    refine lv_iload_n hx hb dJ3_checkIndex_8e157_5 rfl (lv_at hl 1 rfl) ?_
    refine lv_icmp_lt (tgt := 16) hx hb dJ3_checkIndex_8e157_6 (by decide) (fun c_2 => ?_) (fun c_2 => ?_)
    · have c_2 := nn_lt (a := i) (b := n) (by omega) (by omega) c_2
      refine lv_iload_n hx hb dJ3_checkIndex_8e157_16 rfl (lv_at hl 0 rfl) ?_
      exact mp_iret hx hb hr hlocks (Nat.le_of_ble_eq_true rfl) (Nat.le_of_ble_eq_true rfl) hM hS dJ3_checkIndex_8e157_17 (⟨rfl, rfl⟩)
    · have c_2 := nn_nlt (a := i) (b := n) (by omega) (by omega) c_2
      exact absurd c_2 (by omega)
abbrev rmJ0_coder_7d493 : Room := { frames := 0, cells := 0, slots := 0, locals := 0 }
set_option maxHeartbeats 4000000 in
set_option maxRecDepth 100000 in
theorem c_J0_coder_7d493 (l : Launch) (X : mp_X) (G : mp_G) (A : Nat → Prop) (M : mp_M) (k : Nat) (hk0 : k < 10) : mp_Met l X G A yJ0_coder_7d493 wsJ0_coder_7d493 rmJ0_coder_7d493 ([.ref (X.2.2.1 k)] : List Value) M (fun r M1 => r = some (.int 0) ∧ M1 = M) 0 0 := by
  refine mp_ofW (cc := cJ0_coder_7d493) (maxL := 1) (ret := (some .byte)) (by decide) rfl (Nat.le_of_ble_eq_true rfl) ?_
  intro p e s m below meth c ls hx hb hr hts hown hlocks hnm hml hC hM hS hl
  have hl : lv_has ls 1 [(0, .ref (X.2.2.1 k))] := hl
  have hown : s.vm.findClass RJ0 = some m.cls := hown
  have fl_38 := hts (.fieldLink RJ0 38 "java/lang/String" "COMPACT_STRINGS" "Z") (List.mem_of_getElem? (i := 1) rfl)
  have fl_15 := hts (.fieldLink RJ0 15 "java/lang/String" "coder" "B") (List.mem_of_getElem? (i := 2) rfl)
  refine va_gets hx hb hC.2.2.1.2.2.1 hS hown fl_38 (fun _ z => z) dJ0_coder_7d493_0 ?_
  refine lv_if_eq (tgt := 13) hx hb dJ0_coder_7d493_3 (by decide) (fun c_1 => ?_) (fun c_1 => ?_)
  · have c_1 := c_1
    exact absurd c_1 (by decide)
  · have c_1 := c_1
    refine lv_aload_n hx hb dJ0_coder_7d493_6 rfl (lv_at hl 0 rfl) ?_
    refine vk_getf hx hb (hC.2.2.1.2.2.2.2.2.2.1.1 k hk0).2.1 hS hown fl_15 (fun _ z => z) dJ0_coder_7d493_7 ?_
    refine lv_goto (tgt := 14) hx hb dJ0_coder_7d493_10 (by decide) ?_
    exact mp_zret hx hb hr hlocks (Nat.le_of_ble_eq_true rfl) (Nat.le_of_ble_eq_true rfl) hM hS dJ0_coder_7d493_14 (rfl) (⟨rfl, rfl⟩)
abbrev rmJ0_isLatin1_aae02 : Room := { frames := 0, cells := 0, slots := 0, locals := 0 }
set_option maxHeartbeats 4000000 in
set_option maxRecDepth 100000 in
theorem c_J0_isLatin1_aae02 (l : Launch) (X : mp_X) (G : mp_G) (A : Nat → Prop) (M : mp_M) (k : Nat) (hk0 : k < 10) : mp_Met l X G A yJ0_isLatin1_aae02 wsJ0_isLatin1_aae02 rmJ0_isLatin1_aae02 ([.ref (X.2.2.1 k)] : List Value) M (fun r M1 => r = some (.int 1) ∧ M1 = M) 0 0 := by
  refine mp_ofW (cc := cJ0_isLatin1_aae02) (maxL := 1) (ret := (some .boolean)) (by decide) rfl (Nat.le_of_ble_eq_true rfl) ?_
  intro p e s m below meth c ls hx hb hr hts hown hlocks hnm hml hC hM hS hl
  have hl : lv_has ls 1 [(0, .ref (X.2.2.1 k))] := hl
  have hown : s.vm.findClass RJ0 = some m.cls := hown
  have fl_38 := hts (.fieldLink RJ0 38 "java/lang/String" "COMPACT_STRINGS" "Z") (List.mem_of_getElem? (i := 1) rfl)
  have fl_15 := hts (.fieldLink RJ0 15 "java/lang/String" "coder" "B") (List.mem_of_getElem? (i := 2) rfl)
  refine va_gets hx hb hC.2.2.1.2.2.1 hS hown fl_38 (fun _ z => z) dJ0_isLatin1_aae02_0 ?_
  refine lv_if_eq (tgt := 17) hx hb dJ0_isLatin1_aae02_3 (by decide) (fun c_1 => ?_) (fun c_1 => ?_)
  · have c_1 := c_1
    exact absurd c_1 (by decide)
  · have c_1 := c_1
    refine lv_aload_n hx hb dJ0_isLatin1_aae02_6 rfl (lv_at hl 0 rfl) ?_
    refine vk_getf hx hb (hC.2.2.1.2.2.2.2.2.2.1.1 k hk0).2.1 hS hown fl_15 (fun _ z => z) dJ0_isLatin1_aae02_7 ?_
    refine lv_if_ne (tgt := 17) hx hb dJ0_isLatin1_aae02_10 (by decide) (fun c_2 => ?_) (fun c_2 => ?_)
    · have c_2 := c_2
      exact absurd c_2 (by decide)
    · have c_2 := c_2
      refine lv_iconst (v := (1 : Int32)) hx hb dJ0_isLatin1_aae02_13 (by decide) ?_
      refine lv_goto (tgt := 18) hx hb dJ0_isLatin1_aae02_14 (by decide) ?_
      exact mp_zret hx hb hr hlocks (Nat.le_of_ble_eq_true rfl) (Nat.le_of_ble_eq_true rfl) hM hS dJ0_isLatin1_aae02_18 (rfl) (⟨rfl, rfl⟩)
abbrev rmJ0_length_8abf5 : Room := { frames := 1, cells := 0, slots := 0, locals := 20 }
set_option maxHeartbeats 4000000 in
set_option maxRecDepth 100000 in
theorem c_J0_length_8abf5 (l : Launch) (X : mp_X) (G : mp_G) (A : Nat → Prop) (M : mp_M) (k : Nat) (hk0 : k < 10) : mp_Met l X G A yJ0_length_8abf5 wsJ0_length_8abf5 rmJ0_length_8abf5 ([.ref (X.2.2.1 k)] : List Value) M (fun r M1 => r = some (.int (nI (sL k))) ∧ M1 = M) 0 0 := by
  refine mp_ofW (cc := cJ0_length_8abf5) (maxL := 1) (ret := (some .int)) (by decide) rfl (Nat.le_of_ble_eq_true rfl) ?_
  intro p e s m below meth c ls hx hb hr hts hown hlocks hnm hml hC hM hS hl
  have hl : lv_has ls 1 [(0, .ref (X.2.2.1 k))] := hl
  have hown : s.vm.findClass RJ0 = some m.cls := hown
  have fl_9 := hts (.fieldLink RJ0 9 "java/lang/String" "value" "[B") (List.mem_of_getElem? (i := 1) rfl)
  have hsl := sL_le k hk0
  refine lv_aload_n hx hb dJ0_length_8abf5_0 rfl (lv_at hl 0 rfl) ?_
  refine vk_getf hx hb (hC.2.2.1.2.2.2.2.2.2.1.1 k hk0).2.2.1 hS hown fl_9 (fun _ z => z) dJ0_length_8abf5_1 ?_
  refine va_tlen hx hb (hC.2.2.1.2.2.2.2.2.2.1.1 k hk0).2.2.2 hS (v := nI (sL k)) rfl dJ0_length_8abf5_4 ?_
  refine lv_aload_n hx hb dJ0_length_8abf5_5 rfl (lv_at hl 0 rfl) ?_
  refine mp_calli (va_runV (As := []) (rest := [.int (nI (sL k))]) ⟨hx, hb, hml, hown, hts⟩ (c_J0_coder_7d493 l X G A (M) k hk0) (cwV 0 hts gJ0_length_8abf5_J0_coder_7d493 rfl rfl rfl (by decide +kernel) ⟨Nat.le_of_ble_eq_true rfl, Nat.le_of_ble_eq_true rfl⟩) (mp_preV hC hS hM (vk_recv hC.2.2.1.2.2.2.2.2.2.1 hk0 hS)) rfl rfl hl.1 rfl (lv_room (Nat.le_of_ble_eq_true rfl)) dJ0_length_8abf5_6 ⟨Nat.le_of_ble_eq_true rfl, Nat.le_of_ble_eq_true rfl⟩) hS (fun H locs hM hS => ?_)
  refine lv_ishr hx hb dJ0_length_8abf5_9 ?_
  refine mp_top (nI (sL k)) (sh_0 (by omega)) ?_
  exact mp_iret hx hb hr hlocks (Nat.le_of_ble_eq_true rfl) (Nat.le_of_ble_eq_true rfl) hM hS dJ0_length_8abf5_10 (⟨rfl, rfl⟩)
abbrev rmJ0_checkIndex_df160 : Room := { frames := 1, cells := 0, slots := 0, locals := 22 }
set_option maxHeartbeats 4000000 in
set_option maxRecDepth 100000 in
theorem c_J0_checkIndex_df160 (l : Launch) (X : mp_X) (G : mp_G) (A : Nat → Prop) (M : mp_M) (i n : Nat) (hi : i < n) (hn : n < 2 ^ 31) : mp_Met l X G A yJ0_checkIndex_df160 wsJ0_checkIndex_df160 rmJ0_checkIndex_df160 ([.int (nI i), .int (nI n)] : List Value) M (fun r M1 => r = none ∧ M1 = M) 0 0 := by
  refine mp_ofW (cc := cJ0_checkIndex_df160) (maxL := 2) (ret := none) (by decide) rfl (Nat.le_of_ble_eq_true rfl) ?_
  intro p e s m below meth c ls hx hb hr hts hown hlocks hnm hml hC hM hS hl
  have hl : lv_has ls 2 [(0, .int (nI i)), (1, .int (nI n))] := hl
  have hown : s.vm.findClass RJ0 = some m.cls := hown
  have fl_1053 := hts (.fieldLink RJ0 1053 "jdk/internal/util/Preconditions" "SIOOBE_FORMATTER" "Ljava/util/function/BiFunction;") (List.mem_of_getElem? (i := 1) rfl)
  refine lv_iload_n hx hb dJ0_checkIndex_df160_0 rfl (lv_at hl 0 rfl) ?_
  refine lv_iload_n hx hb dJ0_checkIndex_df160_1 rfl (lv_at hl 1 rfl) ?_
  obtain ⟨o9, h9⟩ := hC.2.2.1.2.2.2.2.2.2.2.2
  rcases o9 with _ | q9
  · refine va_gets (v := .null) hx hb h9 hS hown fl_1053 (fun _ z => z) dJ0_checkIndex_df160_2 ?_
    refine mp_calli (va_runS (As := [.int (nI i), .int (nI n), .null]) (rest := []) ⟨hx, hb, hml, hown, hts⟩ (c_J3_checkIndex_8e157 l X G A M i n (by omega) (by omega)) (va_cwS 3 hts gJ0_checkIndex_df160_J3_checkIndex_8e157 rfl rfl rfl (by decide +kernel) ⟨Nat.le_of_ble_eq_true rfl, Nat.le_of_ble_eq_true rfl⟩) (mp_preS hC hS hM) rfl rfl hl.1 rfl (lv_room (Nat.le_of_ble_eq_true rfl)) dJ0_checkIndex_df160_5 ⟨Nat.le_of_ble_eq_true rfl, Nat.le_of_ble_eq_true rfl⟩) hS (fun H locs hM hS => ?_)
    refine lv_pop hx hb dJ0_checkIndex_df160_8 rfl ?_
    exact mp_vret hx hb hr hlocks (Nat.le_of_ble_eq_true rfl) (Nat.le_of_ble_eq_true rfl) hM hS dJ0_checkIndex_df160_9 (⟨rfl, rfl⟩)
  · refine va_gets (v := .ref q9) hx hb h9 hS hown fl_1053 (fun _ z => z) dJ0_checkIndex_df160_2 ?_
    refine mp_calli (va_runS (As := [.int (nI i), .int (nI n), .ref q9]) (rest := []) ⟨hx, hb, hml, hown, hts⟩ (c_J3_checkIndex_8e157_r l X G A M q9 i n (by omega) (by omega)) (va_cwS 3 hts gJ0_checkIndex_df160_J3_checkIndex_8e157 rfl rfl rfl (by decide +kernel) ⟨Nat.le_of_ble_eq_true rfl, Nat.le_of_ble_eq_true rfl⟩) (mp_preS hC hS hM) rfl rfl hl.1 rfl (lv_room (Nat.le_of_ble_eq_true rfl)) dJ0_checkIndex_df160_5 ⟨Nat.le_of_ble_eq_true rfl, Nat.le_of_ble_eq_true rfl⟩) hS (fun H locs hM hS => ?_)
    refine lv_pop hx hb dJ0_checkIndex_df160_8 rfl ?_
    exact mp_vret hx hb hr hlocks (Nat.le_of_ble_eq_true rfl) (Nat.le_of_ble_eq_true rfl) hM hS dJ0_checkIndex_df160_9 (⟨rfl, rfl⟩)
abbrev rmJ1_charAt_3b067 : Room := { frames := 2, cells := 0, slots := 0, locals := 43 }
set_option maxHeartbeats 4000000 in
set_option maxRecDepth 100000 in
theorem c_J1_charAt_3b067 (l : Launch) (X : mp_X) (G : mp_G) (A : Nat → Prop) (M : mp_M) (k : Nat) (hk0 : k < 10) (j : Nat) (hj : j < sL k) : mp_Met l X G A yJ1_charAt_3b067 wsJ1_charAt_3b067 rmJ1_charAt_3b067 ([.ref (X.2.2.2 k), .int (nI j)] : List Value) M (fun r M1 => r = some (.int (sB k j)) ∧ M1 = M) 0 0 := by
  refine mp_ofW (cc := cJ1_charAt_3b067) (maxL := 2) (ret := (some .char)) (by decide) rfl (Nat.le_of_ble_eq_true rfl) ?_
  intro p e s m below meth c ls hx hb hr hts hown hlocks hnm hml hC hM hS hl
  have hl : lv_has ls 2 [(0, .ref (X.2.2.2 k)), (1, .int (nI j))] := hl
  have hown : s.vm.findClass RJ1 = some m.cls := hown
  have hsl := sL_le k hk0
  refine lv_iload_n hx hb dJ1_charAt_3b067_0 rfl (lv_at hl 1 rfl) ?_
  refine lv_aload_n hx hb dJ1_charAt_3b067_1 rfl (lv_at hl 0 rfl) ?_
  refine va_tlen hx hb (hC.2.2.1.2.2.2.2.2.2.1.1 k hk0).2.2.2 hS (v := nI (sL k)) rfl dJ1_charAt_3b067_2 ?_
  refine mp_callv (va_runS (As := [.int (nI j), .int (nI (sL k))]) (rest := []) ⟨hx, hb, hml, hown, hts⟩ (c_J0_checkIndex_df160 l X G A (M) j (sL k) (by omega) (by omega)) (va_cwS 2 hts gJ1_charAt_3b067_J0_checkIndex_df160 rfl rfl rfl (by decide +kernel) ⟨Nat.le_of_ble_eq_true rfl, Nat.le_of_ble_eq_true rfl⟩) (mp_preS hC hS hM) rfl rfl hl.1 rfl (lv_room (Nat.le_of_ble_eq_true rfl)) dJ1_charAt_3b067_3 ⟨Nat.le_of_ble_eq_true rfl, Nat.le_of_ble_eq_true rfl⟩) hS (fun H locs hM hS => ?_)
  refine lv_aload_n hx hb dJ1_charAt_3b067_6 rfl (lv_at hl 0 rfl) ?_
  refine lv_iload_n hx hb dJ1_charAt_3b067_7 rfl (lv_at hl 1 rfl) ?_
  refine va_tb hx hb (hC.2.2.1.2.2.2.2.2.2.1.1 k hk0).2.2.2 hS (vp_in_nI (show j < sL k by omega) (show sL k < 2 ^ 31 by omega)) (v := .int (sB k j)) (by rw [nI_clamp (by omega)]; rfl) dJ1_charAt_3b067_8 ?_
  refine lv_sipush (v := (255 : Int32)) hx hb dJ1_charAt_3b067_9 (by decide) ?_
  refine lv_iand hx hb dJ1_charAt_3b067_12 ?_
  refine lv_i2c hx hb dJ1_charAt_3b067_13 rfl ?_
  refine mp_top (sB k j) (sB_ch hk0 hj) ?_
  exact mp_zret hx hb hr hlocks (Nat.le_of_ble_eq_true rfl) (Nat.le_of_ble_eq_true rfl) hM hS dJ1_charAt_3b067_14 (sB_nr hk0 hj) (⟨rfl, rfl⟩)
abbrev rmJ0_charAt_5068e : Room := { frames := 3, cells := 0, slots := 0, locals := 64 }
set_option maxHeartbeats 4000000 in
set_option maxRecDepth 100000 in
theorem c_J0_charAt_5068e (l : Launch) (X : mp_X) (G : mp_G) (A : Nat → Prop) (M : mp_M) (k : Nat) (hk0 : k < 10) (j : Nat) (hj : j < sL k) : mp_Met l X G A yJ0_charAt_5068e wsJ0_charAt_5068e rmJ0_charAt_5068e ([.ref (X.2.2.1 k), .int (nI j)] : List Value) M (fun r M1 => r = some (.int (sB k j)) ∧ M1 = M) 0 0 := by
  refine mp_ofW (cc := cJ0_charAt_5068e) (maxL := 2) (ret := (some .char)) (by decide) rfl (Nat.le_of_ble_eq_true rfl) ?_
  intro p e s m below meth c ls hx hb hr hts hown hlocks hnm hml hC hM hS hl
  have hl : lv_has ls 2 [(0, .ref (X.2.2.1 k)), (1, .int (nI j))] := hl
  have hown : s.vm.findClass RJ0 = some m.cls := hown
  have fl_9 := hts (.fieldLink RJ0 9 "java/lang/String" "value" "[B") (List.mem_of_getElem? (i := 1) rfl)
  refine lv_aload_n hx hb dJ0_charAt_5068e_0 rfl (lv_at hl 0 rfl) ?_
  refine mp_calli (va_runV (As := []) (rest := []) ⟨hx, hb, hml, hown, hts⟩ (c_J0_isLatin1_aae02 l X G A (M) k hk0) (cwV 0 hts gJ0_charAt_5068e_J0_isLatin1_aae02 rfl rfl rfl (by decide +kernel) ⟨Nat.le_of_ble_eq_true rfl, Nat.le_of_ble_eq_true rfl⟩) (mp_preV hC hS hM (vk_recv hC.2.2.1.2.2.2.2.2.2.1 hk0 hS)) rfl rfl hl.1 rfl (lv_room (Nat.le_of_ble_eq_true rfl)) dJ0_charAt_5068e_1 ⟨Nat.le_of_ble_eq_true rfl, Nat.le_of_ble_eq_true rfl⟩) hS (fun H locs hM hS => ?_)
  refine lv_if_eq (tgt := 16) hx hb dJ0_charAt_5068e_4 (by decide) (fun c_1 => ?_) (fun c_1 => ?_)
  · have c_1 := c_1
    exact absurd c_1 (by decide)
  · have c_1 := c_1
    refine lv_aload_n hx hb dJ0_charAt_5068e_7 rfl (lv_at hl 0 rfl) ?_
    refine vk_getf hx hb (hC.2.2.1.2.2.2.2.2.2.1.1 k hk0).2.2.1 hS hown fl_9 (fun _ z => z) dJ0_charAt_5068e_8 ?_
    refine lv_iload_n hx hb dJ0_charAt_5068e_11 rfl (lv_at hl 1 rfl) ?_
    refine mp_calli (va_runS (As := [.ref (X.2.2.2 k), .int (nI j)]) (rest := []) ⟨hx, hb, hml, hown, hts⟩ (c_J1_charAt_3b067 l X G A (M) k hk0 j (by omega)) (va_cwS 2 hts gJ0_charAt_5068e_J1_charAt_3b067 rfl rfl rfl (by decide +kernel) ⟨Nat.le_of_ble_eq_true rfl, Nat.le_of_ble_eq_true rfl⟩) (mp_preS hC hS hM) rfl rfl hl.1 rfl (lv_room (Nat.le_of_ble_eq_true rfl)) dJ0_charAt_5068e_12 ⟨Nat.le_of_ble_eq_true rfl, Nat.le_of_ble_eq_true rfl⟩) hS (fun H locs hM hS => ?_)
    exact mp_zret hx hb hr hlocks (Nat.le_of_ble_eq_true rfl) (Nat.le_of_ble_eq_true rfl) hM hS dJ0_charAt_5068e_15 (sB_nr hk0 hj) (⟨rfl, rfl⟩)
abbrev rmX4_advance : Room := { frames := 1, cells := 0, slots := 0, locals := 20 }
set_option maxHeartbeats 4000000 in
set_option maxRecDepth 100000 in
theorem c_X4_advance (l : Launch) (X : mp_X) (G : mp_G) (A : Nat → Prop) (M : mp_M) (rq tp sz : Nat) (t : Nat → Int32) (kn kt : mp_N) (hT : M kt = some (tp, .inl (G.2.1, 600, .inl t))) (hkt : kt ≠ kn) (hsz : sz ≤ 600) (a en : Nat) (he : en ≤ sz) (hO : M kn = some (rq, .inr (5, [.ref tp, .int (nI sz), .int (nI a), .int (nI en)])))  : mp_Met l X G A yX4_advance wsX4_advance rmX4_advance ([.ref rq] : List Value) M (fun r M1 => r = none ∧ M1 = mp_set M kn (rq, .inr (5, [.ref tp, .int (nI sz), .int (nI (tb t sz en)), .int (nI (te t sz en))]))) 0 0 := by
  refine mp_ofW (cc := cX4_advance) (maxL := 1) (ret := none) (by decide) rfl (Nat.le_of_ble_eq_true rfl) ?_
  intro p e s m below meth c ls hx hb hr hts hown hlocks hnm hml hC hM hS hl
  have hl : lv_has ls 1 [(0, .ref rq)] := hl
  have hown : s.vm.findClass RX4 = some m.cls := hown
  have hin_wsX40 : ∀ w ∈ wsX40, w ∈ wsX4_advance := fun _ h => List.mem_cons_of_mem _ (List.mem_append_right _ h)
  have fl_15 := hts (.fieldLink RX4 15 "PlanningBench$PlanReader" "end" "I") (List.mem_of_getElem? (i := 1) rfl)
  have fl_9 := hts (.fieldLink RX4 9 "PlanningBench$PlanReader" "start" "I") (List.mem_of_getElem? (i := 2) rfl)
  have fl_28 := hts (.fieldLink RX4 28 "PlanningBench$PlanReader" "length" "I") (List.mem_of_getElem? (i := 3) rfl)
  have fl_18 := hts (.fieldLink RX4 18 "PlanningBench$PlanReader" "text" "[B") (List.mem_of_getElem? (i := 4) rfl)
  have hw := we_in (t := t) he
  have hd := dz_in (t := t) he
  refine lv_aload_n hx hb dX4_advance_0 rfl (lv_at hl 0 rfl) ?_
  refine lv_aload_n hx hb dX4_advance_1 rfl (lv_at hl 0 rfl) ?_
  refine va_get (D := G.1) (C := RX4) (T := TX4) (N := 4) (ci := 5) hx hb hts hin_wsX40 hown hC.1 (hM.one hO) 0 rfl rfl 3 (by decide) fl_15 (fun _ z => z) rfl dX4_advance_2 ?_
  have LP47 : ∀  (ls : Array Slot) (H : Heap) (locs : List Loc), mp_P G.1 A (mp_set M kn (rq, .inr (5, [.ref tp, .int (nI sz), .int (nI (tb t sz en)), .int (nI en)]))) H → va_S A s.heap H locs → lv_has ls 1 [(0, .ref rq)] → W p l e rmX4_advance s m ([.ref rq] : List Value).toArray below meth c H locs 0 0 (MQ below (mp_Q G.1 A (fun r M1 => r = none ∧ M1 = mp_set M kn (rq, .inr (5, [.ref tp, .int (nI sz), .int (nI (tb t sz en)), .int (nI (te t sz en))])))) ([.ref rq] : List Value).toArray s 0 0 A) (F0 m 47 ls []) := by
    intro  ls H locs  hM hS hl
    refine lv_aload_n hx hb dX4_advance_47 rfl (lv_at hl 0 rfl) ?_
    refine lv_aload_n hx hb dX4_advance_48 rfl (lv_at hl 0 rfl) ?_
    refine va_get (D := G.1) (C := RX4) (T := TX4) (N := 4) (ci := 5) hx hb hts hin_wsX40 hown hC.1 (hM.one (mp_set_s _ _ _)) 0 rfl rfl 2 (by decide) fl_9 (fun _ z => z) rfl dX4_advance_49 ?_
    have LP94 : ∀  (ls : Array Slot) (H : Heap) (locs : List Loc), mp_P G.1 A (mp_set M kn (rq, .inr (5, [.ref tp, .int (nI sz), .int (nI (tb t sz en)), .int (nI (we t sz en))]))) H → va_S A s.heap H locs → lv_has ls 1 [(0, .ref rq)] → W p l e rmX4_advance s m ([.ref rq] : List Value).toArray below meth c H locs 0 0 (MQ below (mp_Q G.1 A (fun r M1 => r = none ∧ M1 = mp_set M kn (rq, .inr (5, [.ref tp, .int (nI sz), .int (nI (tb t sz en)), .int (nI (te t sz en))])))) ([.ref rq] : List Value).toArray s 0 0 A) (F0 m 94 ls []) := by
      intro  ls H locs  hM hS hl
      have LP145 : ∀  (ls : Array Slot) (H : Heap) (locs : List Loc), we t sz en = tb t sz en → mp_P G.1 A (mp_set M kn (rq, .inr (5, [.ref tp, .int (nI sz), .int (nI (tb t sz en)), .int (nI (dz t sz en))]))) H → va_S A s.heap H locs → lv_has ls 1 [(0, .ref rq)] → W p l e rmX4_advance s m ([.ref rq] : List Value).toArray below meth c H locs 0 0 (MQ below (mp_Q G.1 A (fun r M1 => r = none ∧ M1 = mp_set M kn (rq, .inr (5, [.ref tp, .int (nI sz), .int (nI (tb t sz en)), .int (nI (te t sz en))])))) ([.ref rq] : List Value).toArray s 0 0 A) (F0 m 145 ls []) := by
        intro  ls H locs hwe hM hS hl
        refine lv_aload_n hx hb dX4_advance_145 rfl (lv_at hl 0 rfl) ?_
        refine va_get (D := G.1) (C := RX4) (T := TX4) (N := 4) (ci := 5) hx hb hts hin_wsX40 hown hC.1 (hM.one (mp_set_s _ _ _)) 0 rfl rfl 3 (by decide) fl_15 (fun _ z => z) rfl dX4_advance_146 ?_
        refine lv_aload_n hx hb dX4_advance_149 rfl (lv_at hl 0 rfl) ?_
        refine va_get (D := G.1) (C := RX4) (T := TX4) (N := 4) (ci := 5) hx hb hts hin_wsX40 hown hC.1 (hM.one (mp_set_s _ _ _)) 0 rfl rfl 2 (by decide) fl_9 (fun _ z => z) rfl dX4_advance_150 ?_
        refine lv_icmp_ne (tgt := 177) hx hb dX4_advance_153 (by decide) (fun c9 => ?_) (fun c9 => ?_)
        · have c9 := nn_neq (a := dz t sz en) (b := tb t sz en) (by omega) (by omega) c9
          exact mp_vret hx hb hr hlocks (Nat.le_of_ble_eq_true rfl) (Nat.le_of_ble_eq_true rfl) hM hS dX4_advance_177 (⟨rfl, by rw [te_d (by omega) c9]⟩)
        · have c9 := nn_eq (a := dz t sz en) (b := tb t sz en) (by omega) (by omega) c9
          refine lv_aload_n hx hb dX4_advance_156 rfl (lv_at hl 0 rfl) ?_
          refine va_get (D := G.1) (C := RX4) (T := TX4) (N := 4) (ci := 5) hx hb hts hin_wsX40 hown hC.1 (hM.one (mp_set_s _ _ _)) 0 rfl rfl 3 (by decide) fl_15 (fun _ z => z) rfl dX4_advance_157 ?_
          refine lv_aload_n hx hb dX4_advance_160 rfl (lv_at hl 0 rfl) ?_
          refine va_get (D := G.1) (C := RX4) (T := TX4) (N := 4) (ci := 5) hx hb hts hin_wsX40 hown hC.1 (hM.one (mp_set_s _ _ _)) 0 rfl rfl 1 (by decide) fl_28 (fun _ z => z) rfl dX4_advance_161 ?_
          refine lv_icmp_ge (tgt := 177) hx hb dX4_advance_164 (by decide) (fun c10 => ?_) (fun c10 => ?_)
          · have c10 := nn_le (a := sz) (b := dz t sz en) (by omega) (by omega) c10
            exact mp_vret hx hb hr hlocks (Nat.le_of_ble_eq_true rfl) (Nat.le_of_ble_eq_true rfl) hM hS dX4_advance_177 (⟨rfl, by rw [te_0 (by omega) c9 (by omega), c9]⟩)
          · have c10 := nn_nle (a := sz) (b := dz t sz en) (by omega) (by omega) c10
            refine lv_aload_n hx hb dX4_advance_167 rfl (lv_at hl 0 rfl) ?_
            refine lv_dup hx hb dX4_advance_168 rfl ?_
            refine va_get (D := G.1) (C := RX4) (T := TX4) (N := 4) (ci := 5) hx hb hts hin_wsX40 hown hC.1 (hM.one (mp_set_s _ _ _)) 0 rfl rfl 3 (by decide) fl_15 (fun _ z => z) rfl dX4_advance_169 ?_
            refine lv_iconst (v := (1 : Int32)) hx hb dX4_advance_172 (by decide) ?_
            refine lv_iadd hx hb dX4_advance_173 ?_
            refine mp_top (nI ((dz t sz en) + 1)) (nI_add (dz t sz en) 1) ?_
            refine mp_put (D := G.1) (C := RX4) (T := TX4) (N := 4) (ci := 5) hx hb hts hin_wsX40 tyX4 tyX4_ok nmX4 hown hC.1 hM hS (mp_set_s _ _ _) rfl 3 (by decide) fl_15 (fun _ z => z) rfl rfl rfl (Nat.le_of_ble_eq_true rfl) dX4_advance_174 (fs' := [.ref tp, .int (nI sz), .int (nI (tb t sz en)), .int (nI ((dz t sz en) + 1))]) rfl (fun H locs hM hS => ?_)
            rw [mp_set_set] at hM
            have hM : mp_P G.1 A (mp_set M kn (rq, .inr (5, [.ref tp, .int (nI sz), .int (nI (tb t sz en)), .int (nI ((dz t sz en) + 1))]))) H := hM
            exact mp_vret hx hb hr hlocks (Nat.le_of_ble_eq_true rfl) (Nat.le_of_ble_eq_true rfl) hM hS dX4_advance_177 (⟨rfl, by rw [te_1 (by omega) c9 (by omega), c9]⟩)
      refine lv_aload_n hx hb dX4_advance_94 rfl (lv_at hl 0 rfl) ?_
      refine va_get (D := G.1) (C := RX4) (T := TX4) (N := 4) (ci := 5) hx hb hts hin_wsX40 hown hC.1 (hM.one (mp_set_s _ _ _)) 0 rfl rfl 3 (by decide) fl_15 (fun _ z => z) rfl dX4_advance_95 ?_
      refine lv_aload_n hx hb dX4_advance_98 rfl (lv_at hl 0 rfl) ?_
      refine va_get (D := G.1) (C := RX4) (T := TX4) (N := 4) (ci := 5) hx hb hts hin_wsX40 hown hC.1 (hM.one (mp_set_s _ _ _)) 0 rfl rfl 2 (by decide) fl_9 (fun _ z => z) rfl dX4_advance_99 ?_
      refine lv_icmp_le (tgt := 106) hx hb dX4_advance_102 (by decide) (fun c6 => ?_) (fun c6 => ?_)
      · have c6 := nn_le (a := we t sz en) (b := tb t sz en) (by omega) (by omega) c6
        have LP106 : ∀ (kk : Nat) (y : Nat) (ls : Array Slot) (H : Heap) (locs : List Loc), sz - y < kk → tb t sz en ≤ y → y ≤ sz → sk (isD t) sz y = dz t sz en → mp_P G.1 A (mp_set M kn (rq, .inr (5, [.ref tp, .int (nI sz), .int (nI (tb t sz en)), .int (nI y)]))) H → va_S A s.heap H locs → lv_has ls 1 [(0, .ref rq)] → W p l e rmX4_advance s m ([.ref rq] : List Value).toArray below meth c H locs 0 0 (MQ below (mp_Q G.1 A (fun r M1 => r = none ∧ M1 = mp_set M kn (rq, .inr (5, [.ref tp, .int (nI sz), .int (nI (tb t sz en)), .int (nI (te t sz en))])))) ([.ref rq] : List Value).toArray s 0 0 A) (F0 m 106 ls []) := by
          intro kk
          induction kk with
          | zero => intro y ls H locs hk; exact absurd hk (Nat.not_lt_zero _)
          | succ kk ih2 =>
            intro y ls H locs hk hy1 hy2 hy3 hM hS hl
            refine lv_aload_n hx hb dX4_advance_106 rfl (lv_at hl 0 rfl) ?_
            refine va_get (D := G.1) (C := RX4) (T := TX4) (N := 4) (ci := 5) hx hb hts hin_wsX40 hown hC.1 (hM.one (mp_set_s _ _ _)) 0 rfl rfl 3 (by decide) fl_15 (fun _ z => z) rfl dX4_advance_107 ?_
            refine lv_aload_n hx hb dX4_advance_110 rfl (lv_at hl 0 rfl) ?_
            refine va_get (D := G.1) (C := RX4) (T := TX4) (N := 4) (ci := 5) hx hb hts hin_wsX40 hown hC.1 (hM.one (mp_set_s _ _ _)) 0 rfl rfl 1 (by decide) fl_28 (fun _ z => z) rfl dX4_advance_111 ?_
            refine lv_icmp_ge (tgt := 145) hx hb dX4_advance_114 (by decide) (fun c7 => ?_) (fun c7 => ?_)
            · have c7 := nn_le (a := sz) (b := y) (by omega) (by omega) c7
              exact LP145 ls _ _ (by omega) (by rw [show dz t sz en = y from hy3.symm.trans (sk_no (fun z => absurd z.1 (Nat.not_lt.mpr c7)))]; exact hM) hS (lv_sub hl [0] rfl)
            · have c7 := nn_nle (a := sz) (b := y) (by omega) (by omega) c7
              refine lv_aload_n hx hb dX4_advance_117 rfl (lv_at hl 0 rfl) ?_
              refine va_get (D := G.1) (C := RX4) (T := TX4) (N := 4) (ci := 5) hx hb hts hin_wsX40 hown hC.1 (hM.one (mp_set_s _ _ _)) 0 rfl rfl 0 (by decide) fl_18 (fun _ z => z) rfl dX4_advance_118 ?_
              refine lv_aload_n hx hb dX4_advance_121 rfl (lv_at hl 0 rfl) ?_
              refine va_get (D := G.1) (C := RX4) (T := TX4) (N := 4) (ci := 5) hx hb hts hin_wsX40 hown hC.1 (hM.one (mp_set_s _ _ _)) 0 rfl rfl 3 (by decide) fl_15 (fun _ z => z) rfl dX4_advance_122 ?_
              refine ca_bald hx hb hC hM ((mp_set_n _ _ _ hkt).trans hT) (j := y) (by omega) (by decide) dX4_advance_125 ?_
              refine mp_calli (va_runS (As := [.int (t y)]) (rest := []) ⟨hx, hb, hml, hown, hts⟩ (c_X4_isDigit l X G A (mp_set M kn (rq, .inr (5, [.ref tp, .int (nI sz), .int (nI (tb t sz en)), .int (nI y)]))) (t y)) (va_cwS 1 hts gX4_advance_X4_isDigit rfl rfl rfl (by decide +kernel) ⟨Nat.le_of_ble_eq_true rfl, Nat.le_of_ble_eq_true rfl⟩) (mp_preS hC hS hM) rfl rfl hl.1 rfl (lv_room (Nat.le_of_ble_eq_true rfl)) dX4_advance_126 ⟨Nat.le_of_ble_eq_true rfl, Nat.le_of_ble_eq_true rfl⟩) hS (fun H locs hM hS => ?_)
              refine lv_if_eq (tgt := 145) hx hb dX4_advance_129 (by decide) (fun c8 => ?_) (fun c8 => ?_)
              · have c8 : (pB (md_in (t y) 48 57)) = false := bI_0.mp c8
                exact LP145 ls _ _ (by omega) (by rw [show dz t sz en = y from hy3.symm.trans (sk_no (fun z => pB_not.mp c8 z.2))]; exact hM) hS (lv_sub hl [0] rfl)
              · have c8 : (pB (md_in (t y) 48 57)) = true := bI_1.mp c8
                refine lv_aload_n hx hb dX4_advance_132 rfl (lv_at hl 0 rfl) ?_
                refine lv_dup hx hb dX4_advance_133 rfl ?_
                refine va_get (D := G.1) (C := RX4) (T := TX4) (N := 4) (ci := 5) hx hb hts hin_wsX40 hown hC.1 (hM.one (mp_set_s _ _ _)) 0 rfl rfl 3 (by decide) fl_15 (fun _ z => z) rfl dX4_advance_134 ?_
                refine lv_iconst (v := (1 : Int32)) hx hb dX4_advance_137 (by decide) ?_
                refine lv_iadd hx hb dX4_advance_138 ?_
                refine mp_top (nI (y + 1)) (nI_add y 1) ?_
                refine mp_put (D := G.1) (C := RX4) (T := TX4) (N := 4) (ci := 5) hx hb hts hin_wsX40 tyX4 tyX4_ok nmX4 hown hC.1 hM hS (mp_set_s _ _ _) rfl 3 (by decide) fl_15 (fun _ z => z) rfl rfl rfl (Nat.le_of_ble_eq_true rfl) dX4_advance_139 (fs' := [.ref tp, .int (nI sz), .int (nI (tb t sz en)), .int (nI (y + 1))]) rfl (fun H locs hM hS => ?_)
                rw [mp_set_set] at hM
                have hM : mp_P G.1 A (mp_set M kn (rq, .inr (5, [.ref tp, .int (nI sz), .int (nI (tb t sz en)), .int (nI (y + 1))]))) H := hM
                refine lv_goto (tgt := 106) hx hb dX4_advance_142 (by decide) ?_
                exact ih2 (y + 1) ls _ _ (by omega) (by omega) (by omega) ((sk_yes c7 (pB_iff.mp c8)).symm.trans hy3) hM hS (lv_sub hl [0] rfl)
        exact LP106 _ (tb t sz en) ls _ _ (Nat.lt_succ_self _) (Nat.le_refl _) (by omega) rfl (by rw [show tb t sz en = we t sz en by omega] at hM ⊢; exact hM) hS (lv_sub hl [0] rfl)
      · have c6 := nn_nle (a := we t sz en) (b := tb t sz en) (by omega) (by omega) c6
        exact mp_vret hx hb hr hlocks (Nat.le_of_ble_eq_true rfl) (Nat.le_of_ble_eq_true rfl) hM hS dX4_advance_105 (⟨rfl, by rw [te_w (by omega)]⟩)
    refine mp_put (D := G.1) (C := RX4) (T := TX4) (N := 4) (ci := 5) hx hb hts hin_wsX40 tyX4 tyX4_ok nmX4 hown hC.1 hM hS (mp_set_s _ _ _) rfl 3 (by decide) fl_15 (fun _ z => z) rfl rfl rfl (Nat.le_of_ble_eq_true rfl) dX4_advance_52 (fs' := [.ref tp, .int (nI sz), .int (nI (tb t sz en)), .int (nI (tb t sz en))]) rfl (fun H locs hM hS => ?_)
    rw [mp_set_set] at hM
    have hM : mp_P G.1 A (mp_set M kn (rq, .inr (5, [.ref tp, .int (nI sz), .int (nI (tb t sz en)), .int (nI (tb t sz en))]))) H := hM
    have LP55 : ∀ (kk : Nat) (y : Nat) (ls : Array Slot) (H : Heap) (locs : List Loc), sz - y < kk → tb t sz en ≤ y → y ≤ sz → sk (isL t) sz y = we t sz en → mp_P G.1 A (mp_set M kn (rq, .inr (5, [.ref tp, .int (nI sz), .int (nI (tb t sz en)), .int (nI y)]))) H → va_S A s.heap H locs → lv_has ls 1 [(0, .ref rq)] → W p l e rmX4_advance s m ([.ref rq] : List Value).toArray below meth c H locs 0 0 (MQ below (mp_Q G.1 A (fun r M1 => r = none ∧ M1 = mp_set M kn (rq, .inr (5, [.ref tp, .int (nI sz), .int (nI (tb t sz en)), .int (nI (te t sz en))])))) ([.ref rq] : List Value).toArray s 0 0 A) (F0 m 55 ls []) := by
      intro kk
      induction kk with
      | zero => intro y ls H locs hk; exact absurd hk (Nat.not_lt_zero _)
      | succ kk ih2 =>
        intro y ls H locs hk hy1 hy2 hy3 hM hS hl
        refine lv_aload_n hx hb dX4_advance_55 rfl (lv_at hl 0 rfl) ?_
        refine va_get (D := G.1) (C := RX4) (T := TX4) (N := 4) (ci := 5) hx hb hts hin_wsX40 hown hC.1 (hM.one (mp_set_s _ _ _)) 0 rfl rfl 3 (by decide) fl_15 (fun _ z => z) rfl dX4_advance_56 ?_
        refine lv_aload_n hx hb dX4_advance_59 rfl (lv_at hl 0 rfl) ?_
        refine va_get (D := G.1) (C := RX4) (T := TX4) (N := 4) (ci := 5) hx hb hts hin_wsX40 hown hC.1 (hM.one (mp_set_s _ _ _)) 0 rfl rfl 1 (by decide) fl_28 (fun _ z => z) rfl dX4_advance_60 ?_
        refine lv_icmp_ge (tgt := 94) hx hb dX4_advance_63 (by decide) (fun c4 => ?_) (fun c4 => ?_)
        · have c4 := nn_le (a := sz) (b := y) (by omega) (by omega) c4
          exact LP94 ls _ _ (by rw [show we t sz en = y from hy3.symm.trans (sk_no (fun z => absurd z.1 (Nat.not_lt.mpr c4)))]; exact hM) hS (lv_sub hl [0] rfl)
        · have c4 := nn_nle (a := sz) (b := y) (by omega) (by omega) c4
          refine lv_aload_n hx hb dX4_advance_66 rfl (lv_at hl 0 rfl) ?_
          refine va_get (D := G.1) (C := RX4) (T := TX4) (N := 4) (ci := 5) hx hb hts hin_wsX40 hown hC.1 (hM.one (mp_set_s _ _ _)) 0 rfl rfl 0 (by decide) fl_18 (fun _ z => z) rfl dX4_advance_67 ?_
          refine lv_aload_n hx hb dX4_advance_70 rfl (lv_at hl 0 rfl) ?_
          refine va_get (D := G.1) (C := RX4) (T := TX4) (N := 4) (ci := 5) hx hb hts hin_wsX40 hown hC.1 (hM.one (mp_set_s _ _ _)) 0 rfl rfl 3 (by decide) fl_15 (fun _ z => z) rfl dX4_advance_71 ?_
          refine ca_bald hx hb hC hM ((mp_set_n _ _ _ hkt).trans hT) (j := y) (by omega) (by decide) dX4_advance_74 ?_
          refine mp_calli (va_runS (As := [.int (t y)]) (rest := []) ⟨hx, hb, hml, hown, hts⟩ (c_X4_isLetter l X G A (mp_set M kn (rq, .inr (5, [.ref tp, .int (nI sz), .int (nI (tb t sz en)), .int (nI y)]))) (t y)) (va_cwS 1 hts gX4_advance_X4_isLetter rfl rfl rfl (by decide +kernel) ⟨Nat.le_of_ble_eq_true rfl, Nat.le_of_ble_eq_true rfl⟩) (mp_preS hC hS hM) rfl rfl hl.1 rfl (lv_room (Nat.le_of_ble_eq_true rfl)) dX4_advance_75 ⟨Nat.le_of_ble_eq_true rfl, Nat.le_of_ble_eq_true rfl⟩) hS (fun H locs hM hS => ?_)
          refine lv_if_eq (tgt := 94) hx hb dX4_advance_78 (by decide) (fun c5 => ?_) (fun c5 => ?_)
          · have c5 : (pB (md_in (t y) 97 122)) = false := bI_0.mp c5
            exact LP94 ls _ _ (by rw [show we t sz en = y from hy3.symm.trans (sk_no (fun z => pB_not.mp c5 z.2))]; exact hM) hS (lv_sub hl [0] rfl)
          · have c5 : (pB (md_in (t y) 97 122)) = true := bI_1.mp c5
            refine lv_aload_n hx hb dX4_advance_81 rfl (lv_at hl 0 rfl) ?_
            refine lv_dup hx hb dX4_advance_82 rfl ?_
            refine va_get (D := G.1) (C := RX4) (T := TX4) (N := 4) (ci := 5) hx hb hts hin_wsX40 hown hC.1 (hM.one (mp_set_s _ _ _)) 0 rfl rfl 3 (by decide) fl_15 (fun _ z => z) rfl dX4_advance_83 ?_
            refine lv_iconst (v := (1 : Int32)) hx hb dX4_advance_86 (by decide) ?_
            refine lv_iadd hx hb dX4_advance_87 ?_
            refine mp_top (nI (y + 1)) (nI_add y 1) ?_
            refine mp_put (D := G.1) (C := RX4) (T := TX4) (N := 4) (ci := 5) hx hb hts hin_wsX40 tyX4 tyX4_ok nmX4 hown hC.1 hM hS (mp_set_s _ _ _) rfl 3 (by decide) fl_15 (fun _ z => z) rfl rfl rfl (Nat.le_of_ble_eq_true rfl) dX4_advance_88 (fs' := [.ref tp, .int (nI sz), .int (nI (tb t sz en)), .int (nI (y + 1))]) rfl (fun H locs hM hS => ?_)
            rw [mp_set_set] at hM
            have hM : mp_P G.1 A (mp_set M kn (rq, .inr (5, [.ref tp, .int (nI sz), .int (nI (tb t sz en)), .int (nI (y + 1))]))) H := hM
            refine lv_goto (tgt := 55) hx hb dX4_advance_91 (by decide) ?_
            exact ih2 (y + 1) ls _ _ (by omega) (by omega) (by omega) ((sk_yes c4 (pB_iff.mp c5)).symm.trans hy3) hM hS (lv_sub hl [0] rfl)
    exact LP55 _ (tb t sz en) ls _ _ (Nat.lt_succ_self _) (Nat.le_refl _) (by omega) rfl hM hS (lv_sub hl [0] rfl)
  refine mp_put (D := G.1) (C := RX4) (T := TX4) (N := 4) (ci := 5) hx hb hts hin_wsX40 tyX4 tyX4_ok nmX4 hown hC.1 hM hS hO rfl 2 (by decide) fl_9 (fun _ z => z) rfl rfl rfl (Nat.le_of_ble_eq_true rfl) dX4_advance_5 (fs' := [.ref tp, .int (nI sz), .int (nI en), .int (nI en)]) rfl (fun H locs hM hS => ?_)
  have hM : mp_P G.1 A (mp_set M kn (rq, .inr (5, [.ref tp, .int (nI sz), .int (nI en), .int (nI en)]))) H := hM
  have LP8 : ∀ (kk : Nat) (x : Nat) (ls : Array Slot) (H : Heap) (locs : List Loc), sz - x < kk → en ≤ x → x ≤ sz → tb t sz x = tb t sz en → mp_P G.1 A (mp_set M kn (rq, .inr (5, [.ref tp, .int (nI sz), .int (nI x), .int (nI en)]))) H → va_S A s.heap H locs → lv_has ls 1 [(0, .ref rq)] → W p l e rmX4_advance s m ([.ref rq] : List Value).toArray below meth c H locs 0 0 (MQ below (mp_Q G.1 A (fun r M1 => r = none ∧ M1 = mp_set M kn (rq, .inr (5, [.ref tp, .int (nI sz), .int (nI (tb t sz en)), .int (nI (te t sz en))])))) ([.ref rq] : List Value).toArray s 0 0 A) (F0 m 8 ls []) := by
    intro kk
    induction kk with
    | zero => intro x ls H locs hk; exact absurd hk (Nat.not_lt_zero _)
    | succ kk ih =>
      intro x ls H locs hk hx1 hx2 hx3 hM hS hl
      refine lv_aload_n hx hb dX4_advance_8 rfl (lv_at hl 0 rfl) ?_
      refine va_get (D := G.1) (C := RX4) (T := TX4) (N := 4) (ci := 5) hx hb hts hin_wsX40 hown hC.1 (hM.one (mp_set_s _ _ _)) 0 rfl rfl 2 (by decide) fl_9 (fun _ z => z) rfl dX4_advance_9 ?_
      refine lv_aload_n hx hb dX4_advance_12 rfl (lv_at hl 0 rfl) ?_
      refine va_get (D := G.1) (C := RX4) (T := TX4) (N := 4) (ci := 5) hx hb hts hin_wsX40 hown hC.1 (hM.one (mp_set_s _ _ _)) 0 rfl rfl 1 (by decide) fl_28 (fun _ z => z) rfl dX4_advance_13 ?_
      refine lv_icmp_ge (tgt := 47) hx hb dX4_advance_16 (by decide) (fun c1 => ?_) (fun c1 => ?_)
      · have c1 := nn_le (a := sz) (b := x) (by omega) (by omega) c1
        exact LP47 ls _ _ (by rw [show tb t sz en = x from hx3.symm.trans (sk_no (fun z => absurd z.1 (Nat.not_lt.mpr c1)))]; exact hM) hS (lv_sub hl [0] rfl)
      · have c1 := nn_nle (a := sz) (b := x) (by omega) (by omega) c1
        refine lv_aload_n hx hb dX4_advance_19 rfl (lv_at hl 0 rfl) ?_
        refine va_get (D := G.1) (C := RX4) (T := TX4) (N := 4) (ci := 5) hx hb hts hin_wsX40 hown hC.1 (hM.one (mp_set_s _ _ _)) 0 rfl rfl 0 (by decide) fl_18 (fun _ z => z) rfl dX4_advance_20 ?_
        refine lv_aload_n hx hb dX4_advance_23 rfl (lv_at hl 0 rfl) ?_
        refine va_get (D := G.1) (C := RX4) (T := TX4) (N := 4) (ci := 5) hx hb hts hin_wsX40 hown hC.1 (hM.one (mp_set_s _ _ _)) 0 rfl rfl 2 (by decide) fl_9 (fun _ z => z) rfl dX4_advance_24 ?_
        refine ca_bald hx hb hC hM ((mp_set_n _ _ _ hkt).trans hT) (j := x) (by omega) (by decide) dX4_advance_27 ?_
        refine mp_calli (va_runS (As := [.int (t x)]) (rest := []) ⟨hx, hb, hml, hown, hts⟩ (c_X4_isBlank l X G A (mp_set M kn (rq, .inr (5, [.ref tp, .int (nI sz), .int (nI x), .int (nI en)]))) (t x)) (va_cwS 1 hts gX4_advance_X4_isBlank rfl rfl rfl (by decide +kernel) ⟨Nat.le_of_ble_eq_true rfl, Nat.le_of_ble_eq_true rfl⟩) (mp_preS hC hS hM) rfl rfl hl.1 rfl (lv_room (Nat.le_of_ble_eq_true rfl)) dX4_advance_28 ⟨Nat.le_of_ble_eq_true rfl, Nat.le_of_ble_eq_true rfl⟩) hS (fun H locs hM hS => ?_)
        refine lv_if_eq (tgt := 47) hx hb dX4_advance_31 (by decide) (fun c3 => ?_) (fun c3 => ?_)
        · have c3 : (pB ((t x) = 32 ∨ (t x) = 10)) = false := bI_0.mp c3
          exact LP47 ls _ _ (by rw [show tb t sz en = x from hx3.symm.trans (sk_no (fun z => pB_not.mp c3 z.2))]; exact hM) hS (lv_sub hl [0] rfl)
        · have c3 : (pB ((t x) = 32 ∨ (t x) = 10)) = true := bI_1.mp c3
          refine lv_aload_n hx hb dX4_advance_34 rfl (lv_at hl 0 rfl) ?_
          refine lv_dup hx hb dX4_advance_35 rfl ?_
          refine va_get (D := G.1) (C := RX4) (T := TX4) (N := 4) (ci := 5) hx hb hts hin_wsX40 hown hC.1 (hM.one (mp_set_s _ _ _)) 0 rfl rfl 2 (by decide) fl_9 (fun _ z => z) rfl dX4_advance_36 ?_
          refine lv_iconst (v := (1 : Int32)) hx hb dX4_advance_39 (by decide) ?_
          refine lv_iadd hx hb dX4_advance_40 ?_
          refine mp_top (nI (x + 1)) (nI_add x 1) ?_
          refine mp_put (D := G.1) (C := RX4) (T := TX4) (N := 4) (ci := 5) hx hb hts hin_wsX40 tyX4 tyX4_ok nmX4 hown hC.1 hM hS (mp_set_s _ _ _) rfl 2 (by decide) fl_9 (fun _ z => z) rfl rfl rfl (Nat.le_of_ble_eq_true rfl) dX4_advance_41 (fs' := [.ref tp, .int (nI sz), .int (nI (x + 1)), .int (nI en)]) rfl (fun H locs hM hS => ?_)
          rw [mp_set_set] at hM
          have hM : mp_P G.1 A (mp_set M kn (rq, .inr (5, [.ref tp, .int (nI sz), .int (nI (x + 1)), .int (nI en)]))) H := hM
          refine lv_goto (tgt := 8) hx hb dX4_advance_44 (by decide) ?_
          exact ih (x + 1) ls _ _ (by omega) (by omega) (by omega) ((sk_yes c1 (pB_iff.mp c3)).symm.trans hx3) hM hS (lv_sub hl [0] rfl)
  exact LP8 _ en ls _ _ (Nat.lt_succ_self _) (Nat.le_refl _) he rfl hM hS (lv_sub hl [0] rfl)
abbrev rmX4_isHere : Room := { frames := 4, cells := 0, slots := 0, locals := 85 }
set_option maxHeartbeats 4000000 in
set_option maxRecDepth 100000 in
theorem c_X4_isHere (l : Launch) (X : mp_X) (G : mp_G) (A : Nat → Prop) (M : mp_M) (rq tp sz : Nat) (t : Nat → Int32) (kn kt : mp_N) (hT : M kt = some (tp, .inl (G.2.1, 600, .inl t))) (hkt : kt ≠ kn) (hsz : sz ≤ 600) (a en : Nat) (ha : a ≤ en) (he : en ≤ sz) (hO : M kn = some (rq, .inr (5, [.ref tp, .int (nI sz), .int (nI a), .int (nI en)]))) (k : Nat) (hk0 : k < 10) : mp_Met l X G A yX4_isHere wsX4_isHere rmX4_isHere ([.ref rq, .ref (X.2.2.1 k)] : List Value) M (fun r M1 => r = some (.int (bI (pB (hereP t a en k)))) ∧ M1 = M) 0 0 := by
  refine mp_ofW (cc := cX4_isHere) (maxL := 3) (ret := (some .boolean)) (by decide) rfl (Nat.le_of_ble_eq_true rfl) ?_
  intro p e s m below meth c ls hx hb hr hts hown hlocks hnm hml hC hM hS hl
  have hl : lv_has ls 3 [(0, .ref rq), (1, .ref (X.2.2.1 k))] := hl
  have hown : s.vm.findClass RX4 = some m.cls := hown
  have hin_wsX40 : ∀ w ∈ wsX40, w ∈ wsX4_isHere := fun _ h => List.mem_cons_of_mem _ (List.mem_append_right _ h)
  have fl_15 := hts (.fieldLink RX4 15 "PlanningBench$PlanReader" "end" "I") (List.mem_of_getElem? (i := 1) rfl)
  have fl_9 := hts (.fieldLink RX4 9 "PlanningBench$PlanReader" "start" "I") (List.mem_of_getElem? (i := 2) rfl)
  have fl_18 := hts (.fieldLink RX4 18 "PlanningBench$PlanReader" "text" "[B") (List.mem_of_getElem? (i := 3) rfl)
  have hsl := sL_le k hk0
  refine lv_aload_n hx hb dX4_isHere_0 rfl (lv_at hl 0 rfl) ?_
  refine va_get (D := G.1) (C := RX4) (T := TX4) (N := 4) (ci := 5) hx hb hts hin_wsX40 hown hC.1 (hM.one hO) 0 rfl rfl 3 (by decide) fl_15 (fun _ z => z) rfl dX4_isHere_1 ?_
  refine lv_aload_n hx hb dX4_isHere_4 rfl (lv_at hl 0 rfl) ?_
  refine va_get (D := G.1) (C := RX4) (T := TX4) (N := 4) (ci := 5) hx hb hts hin_wsX40 hown hC.1 (hM.one hO) 0 rfl rfl 2 (by decide) fl_9 (fun _ z => z) rfl dX4_isHere_5 ?_
  refine lv_isub hx hb dX4_isHere_8 ?_
  refine mp_top (nI (en - a)) (pk_sub (a := en) (b := a) (by omega)) ?_
  refine lv_aload_n hx hb dX4_isHere_9 rfl (lv_at hl 1 rfl) ?_
  refine mp_calli (va_runV (As := []) (rest := [.int (nI (en - a))]) ⟨hx, hb, hml, hown, hts⟩ (c_J0_length_8abf5 l X G A (M) k hk0) (cwV 0 hts gX4_isHere_J0_length_8abf5 rfl rfl rfl (by decide +kernel) ⟨Nat.le_of_ble_eq_true rfl, Nat.le_of_ble_eq_true rfl⟩) (mp_preV hC hS hM (vk_recv hC.2.2.1.2.2.2.2.2.2.1 hk0 hS)) rfl rfl hl.1 rfl (lv_room (Nat.le_of_ble_eq_true rfl)) dX4_isHere_10 ⟨Nat.le_of_ble_eq_true rfl, Nat.le_of_ble_eq_true rfl⟩) hS (fun H locs hM hS => ?_)
  refine lv_icmp_eq (tgt := 18) hx hb dX4_isHere_13 (by decide) (fun c1 => ?_) (fun c1 => ?_)
  · have c1 := nn_eq (a := en - a) (b := sL k) (by omega) (by omega) c1
    refine lv_iconst (v := (0 : Int32)) hx hb dX4_isHere_18 (by decide) ?_
    refine lv_istore_n (lv' := [(2, .int (0 : Int32)), (0, .ref rq), (1, .ref (X.2.2.1 k))]) hx hb dX4_isHere_19 rfl hl (by decide) rfl (fun ls hl => ?_)
    have LP20 : ∀ (kk : Nat) (i : Nat) (ls : Array Slot) (H : Heap) (locs : List Loc), sL k - i < kk → i ≤ sL k → (∀ j, j < i → t (a + j) = sB k j) → mp_P G.1 A M H → va_S A s.heap H locs → lv_has ls 3 [(0, .ref rq), (1, .ref (X.2.2.1 k)), (2, .int (nI i))] → W p l e rmX4_isHere s m ([.ref rq, .ref (X.2.2.1 k)] : List Value).toArray below meth c H locs 0 0 (MQ below (mp_Q G.1 A (fun r M1 => r = some (.int (bI (pB (hereP t a en k)))) ∧ M1 = M)) ([.ref rq, .ref (X.2.2.1 k)] : List Value).toArray s 0 0 A) (F0 m 20 ls []) := by
      intro kk
      induction kk with
      | zero => intro i ls H locs hk; exact absurd hk (Nat.not_lt_zero _)
      | succ kk ih =>
        intro i ls H locs hk hi hinv hM hS hl
        refine lv_iload_n hx hb dX4_isHere_20 rfl (lv_at hl 2 rfl) ?_
        refine lv_aload_n hx hb dX4_isHere_21 rfl (lv_at hl 1 rfl) ?_
        refine mp_calli (va_runV (As := []) (rest := [.int (nI i)]) ⟨hx, hb, hml, hown, hts⟩ (c_J0_length_8abf5 l X G A (M) k hk0) (cwV 0 hts gX4_isHere_J0_length_8abf5 rfl rfl rfl (by decide +kernel) ⟨Nat.le_of_ble_eq_true rfl, Nat.le_of_ble_eq_true rfl⟩) (mp_preV hC hS hM (vk_recv hC.2.2.1.2.2.2.2.2.2.1 hk0 hS)) rfl rfl hl.1 rfl (lv_room (Nat.le_of_ble_eq_true rfl)) dX4_isHere_22 ⟨Nat.le_of_ble_eq_true rfl, Nat.le_of_ble_eq_true rfl⟩) hS (fun H locs hM hS => ?_)
        refine lv_icmp_ge (tgt := 55) hx hb dX4_isHere_25 (by decide) (fun c3 => ?_) (fun c3 => ?_)
        · have c3 := nn_le (a := sL k) (b := i) (by omega) (by omega) c3
          refine lv_iconst (v := (1 : Int32)) hx hb dX4_isHere_55 (by decide) ?_
          exact mp_zret hx hb hr hlocks (Nat.le_of_ble_eq_true rfl) (Nat.le_of_ble_eq_true rfl) hM hS dX4_isHere_56 (by first | rfl | exact bI_nar _) (⟨b1 ⟨c1, fun j hj => hinv j (by omega)⟩, rfl⟩)
        · have c3 := nn_nle (a := sL k) (b := i) (by omega) (by omega) c3
          refine lv_aload_n hx hb dX4_isHere_28 rfl (lv_at hl 0 rfl) ?_
          refine va_get (D := G.1) (C := RX4) (T := TX4) (N := 4) (ci := 5) hx hb hts hin_wsX40 hown hC.1 (hM.one hO) 0 rfl rfl 0 (by decide) fl_18 (fun _ z => z) rfl dX4_isHere_29 ?_
          refine lv_aload_n hx hb dX4_isHere_32 rfl (lv_at hl 0 rfl) ?_
          refine va_get (D := G.1) (C := RX4) (T := TX4) (N := 4) (ci := 5) hx hb hts hin_wsX40 hown hC.1 (hM.one hO) 0 rfl rfl 2 (by decide) fl_9 (fun _ z => z) rfl dX4_isHere_33 ?_
          refine lv_iload_n hx hb dX4_isHere_36 rfl (lv_at hl 2 rfl) ?_
          refine lv_iadd hx hb dX4_isHere_37 ?_
          refine mp_top (nI (a + i)) (nI_add a i) ?_
          refine ca_bald hx hb hC hM hT (j := a + i) (by omega) (by decide) dX4_isHere_38 ?_
          refine lv_aload_n hx hb dX4_isHere_39 rfl (lv_at hl 1 rfl) ?_
          refine lv_iload_n hx hb dX4_isHere_40 rfl (lv_at hl 2 rfl) ?_
          refine mp_calli (va_runV (As := [.int (nI i)]) (rest := [.int (t (a + i))]) ⟨hx, hb, hml, hown, hts⟩ (c_J0_charAt_5068e l X G A (M) k hk0 i (by omega)) (cwV 1 hts gX4_isHere_J0_charAt_5068e rfl rfl rfl (by decide +kernel) ⟨Nat.le_of_ble_eq_true rfl, Nat.le_of_ble_eq_true rfl⟩) (mp_preV hC hS hM (vk_recv hC.2.2.1.2.2.2.2.2.2.1 hk0 hS)) rfl rfl hl.1 rfl (lv_room (Nat.le_of_ble_eq_true rfl)) dX4_isHere_41 ⟨Nat.le_of_ble_eq_true rfl, Nat.le_of_ble_eq_true rfl⟩) hS (fun H locs hM hS => ?_)
          refine lv_icmp_eq (tgt := 49) hx hb dX4_isHere_44 (by decide) (fun c4 => ?_) (fun c4 => ?_)
          · have c4 := c4
            refine lv_iinc (v := nI (i + 1)) (lv' := [(2, .int (nI (i + 1))), (0, .ref rq), (1, .ref (X.2.2.1 k))]) hx hb dX4_isHere_49 hl (k := 2) rfl (nI_1 i) (by decide) rfl (fun ls hl => ?_)
            refine lv_goto (tgt := 20) hx hb dX4_isHere_52 (by decide) ?_
            exact ih (i + 1) ls _ _ (by omega) (by omega) (fun u hu => (Nat.lt_succ_iff_lt_or_eq.mp hu).elim (hinv u) (fun z => by rw [z]; exact c4)) hM hS (lv_sub hl [1, 2, 0] rfl)
          · have c4 := c4
            refine lv_iconst (v := (0 : Int32)) hx hb dX4_isHere_47 (by decide) ?_
            exact mp_zret hx hb hr hlocks (Nat.le_of_ble_eq_true rfl) (Nat.le_of_ble_eq_true rfl) hM hS dX4_isHere_48 (by first | rfl | exact bI_nar _) (⟨b0 (fun z => c4 (z.2 i (by omega))), rfl⟩)
    exact LP20 _ 0 ls _ _ (Nat.lt_succ_self _) (Nat.zero_le _) (fun j hj => absurd hj (Nat.not_lt_zero _)) hM hS (lv_sub hl [1, 2, 0] rfl)
  · have c1 := nn_neq (a := en - a) (b := sL k) (by omega) (by omega) c1
    refine lv_iconst (v := (0 : Int32)) hx hb dX4_isHere_16 (by decide) ?_
    exact mp_zret hx hb hr hlocks (Nat.le_of_ble_eq_true rfl) (Nat.le_of_ble_eq_true rfl) hM hS dX4_isHere_17 (by first | rfl | exact bI_nar _) (⟨b0 (fun z => c1 z.1), rfl⟩)
abbrev rmX4_take : Room := { frames := 5, cells := 0, slots := 0, locals := 107 }
set_option maxHeartbeats 4000000 in
set_option maxRecDepth 100000 in
theorem c_X4_take (l : Launch) (X : mp_X) (G : mp_G) (A : Nat → Prop) (M : mp_M) (rq tp sz : Nat) (t : Nat → Int32) (kn kt : mp_N) (hT : M kt = some (tp, .inl (G.2.1, 600, .inl t))) (hkt : kt ≠ kn) (hsz : sz ≤ 600) (a en : Nat) (ha : a ≤ en) (he : en ≤ sz) (hO : M kn = some (rq, .inr (5, [.ref tp, .int (nI sz), .int (nI a), .int (nI en)]))) (k : Nat) (hk0 : k < 10) : mp_Met l X G A yX4_take wsX4_take rmX4_take ([.ref rq, .ref (X.2.2.1 k)] : List Value) M (fun r M1 => r = some (.int (bI (pB (hereP t a en k)))) ∧ M1 = if pB (hereP t a en k) then mp_set M kn (rq, .inr (5, [.ref tp, .int (nI sz), .int (nI (tb t sz en)), .int (nI (te t sz en))])) else M) 0 0 := by
  refine mp_ofW (cc := cX4_take) (maxL := 2) (ret := (some .boolean)) (by decide) rfl (Nat.le_of_ble_eq_true rfl) ?_
  intro p e s m below meth c ls hx hb hr hts hown hlocks hnm hml hC hM hS hl
  have hl : lv_has ls 2 [(0, .ref rq), (1, .ref (X.2.2.1 k))] := hl
  have hown : s.vm.findClass RX4 = some m.cls := hown
  refine lv_aload_n hx hb dX4_take_0 rfl (lv_at hl 0 rfl) ?_
  refine lv_aload_n hx hb dX4_take_1 rfl (lv_at hl 1 rfl) ?_
  refine mp_calli (va_runV (As := [.ref (X.2.2.1 k)]) (rest := []) ⟨hx, hb, hml, hown, hts⟩ (c_X4_isHere l X G A (M) rq tp sz t kn kt hT hkt hsz a en (by omega) (by omega) hO k hk0) (cwV 1 hts gX4_take_X4_isHere rfl rfl rfl (by decide +kernel) ⟨Nat.le_of_ble_eq_true rfl, Nat.le_of_ble_eq_true rfl⟩) (mp_preV hC hS hM (mp_recv hC.1 hM hO (r := (RX4, TX4, 4)) rfl)) rfl rfl hl.1 rfl (lv_room (Nat.le_of_ble_eq_true rfl)) dX4_take_2 ⟨Nat.le_of_ble_eq_true rfl, Nat.le_of_ble_eq_true rfl⟩) hS (fun H locs hM hS => ?_)
  refine lv_if_ne (tgt := 10) hx hb dX4_take_5 (by decide) (fun c1 => ?_) (fun c1 => ?_)
  · have c1 : (pB (hereP t a en k)) = true := bI_1.mp c1
    refine lv_aload_n hx hb dX4_take_10 rfl (lv_at hl 0 rfl) ?_
    refine mp_callv (va_runV (As := []) (rest := []) ⟨hx, hb, hml, hown, hts⟩ (c_X4_advance l X G A (M) rq tp sz t kn kt hT hkt hsz a en (by omega) hO) (cwV 0 hts gX4_take_X4_advance rfl rfl rfl (by decide +kernel) ⟨Nat.le_of_ble_eq_true rfl, Nat.le_of_ble_eq_true rfl⟩) (mp_preV hC hS hM (mp_recv hC.1 hM hO (r := (RX4, TX4, 4)) rfl)) rfl rfl hl.1 rfl (lv_room (Nat.le_of_ble_eq_true rfl)) dX4_take_11 ⟨Nat.le_of_ble_eq_true rfl, Nat.le_of_ble_eq_true rfl⟩) hS (fun H locs hM hS => ?_)
    refine lv_iconst (v := (1 : Int32)) hx hb dX4_take_14 (by decide) ?_
    exact mp_zret hx hb hr hlocks (Nat.le_of_ble_eq_true rfl) (Nat.le_of_ble_eq_true rfl) hM hS dX4_take_15 (by first | rfl | exact bI_nar _) (⟨by rw [c1]; rfl, by rw [c1]; rfl⟩)
  · have c1 : (pB (hereP t a en k)) = false := bI_0.mp c1
    refine lv_iconst (v := (0 : Int32)) hx hb dX4_take_8 (by decide) ?_
    exact mp_zret hx hb hr hlocks (Nat.le_of_ble_eq_true rfl) (Nat.le_of_ble_eq_true rfl) hM hS dX4_take_9 (by first | rfl | exact bI_nar _) (⟨by rw [c1]; rfl, by rw [c1]; rfl⟩)
noncomputable def itH (t : Nat → Int32) (a en : Nat) : Int32 := if pB (hereP t a en 3) then 0 else if pB (hereP t a en 4) then 1 else if pB (hereP t a en 5) then 2 else if pB (hereP t a en 6) then 3 else if pB (hereP t a en 7) then 4 else if pB (hereP t a en 8) then 5 else -1
abbrev rmX4_itemHere : Room := { frames := 5, cells := 0, slots := 0, locals := 107 }
set_option maxHeartbeats 4000000 in
set_option maxRecDepth 100000 in
theorem c_X4_itemHere (l : Launch) (X : mp_X) (G : mp_G) (A : Nat → Prop) (M : mp_M) (rq tp sz : Nat) (t : Nat → Int32) (kn kt : mp_N) (hT : M kt = some (tp, .inl (G.2.1, 600, .inl t))) (hkt : kt ≠ kn) (hsz : sz ≤ 600) (a en : Nat) (ha : a ≤ en) (he : en ≤ sz) (hO : M kn = some (rq, .inr (5, [.ref tp, .int (nI sz), .int (nI a), .int (nI en)])))  : mp_Met l X G A yX4_itemHere wsX4_itemHere rmX4_itemHere ([.ref rq] : List Value) M (fun r M1 => r = some (.int (itH t a en)) ∧ M1 = M) 0 0 := by
  refine mp_ofW (cc := cX4_itemHere) (maxL := 1) (ret := (some .int)) (by decide) rfl (Nat.le_of_ble_eq_true rfl) ?_
  intro p e s m below meth c ls hx hb hr hts hown hlocks hnm hml hC hM hS hl
  have hl : lv_has ls 1 [(0, .ref rq)] := hl
  have hown : s.vm.findClass RX4 = some m.cls := hown
  refine lv_aload_n hx hb dX4_itemHere_0 rfl (lv_at hl 0 rfl) ?_
  refine va_ldcS hx hb hown (hC.2.2.1.2.2.2.2.2.2.2.1 3 (85, "plots") rfl) dX4_itemHere_1 ?_
  refine mp_calli (va_runV (As := [.ref (X.2.2.1 3)]) (rest := []) ⟨hx, hb, hml, hown, hts⟩ (c_X4_isHere l X G A (M) rq tp sz t kn kt hT hkt hsz a en (by omega) (by omega) hO 3 (by decide)) (cwV 1 hts gX4_itemHere_X4_isHere rfl rfl rfl (by decide +kernel) ⟨Nat.le_of_ble_eq_true rfl, Nat.le_of_ble_eq_true rfl⟩) (mp_preV hC hS hM (mp_recv hC.1 hM hO (r := (RX4, TX4, 4)) rfl)) rfl rfl hl.1 rfl (lv_room (Nat.le_of_ble_eq_true rfl)) dX4_itemHere_3 ⟨Nat.le_of_ble_eq_true rfl, Nat.le_of_ble_eq_true rfl⟩) hS (fun H locs hM hS => ?_)
  refine lv_if_eq (tgt := 11) hx hb dX4_itemHere_6 (by decide) (fun c0_ => ?_) (fun c0_ => ?_)
  · have c0_ : (pB (hereP t a en 3)) = false := bI_0.mp c0_
    refine lv_aload_n hx hb dX4_itemHere_11 rfl (lv_at hl 0 rfl) ?_
    refine va_ldcS hx hb hown (hC.2.2.1.2.2.2.2.2.2.2.1 4 (87, "use") rfl) dX4_itemHere_12 ?_
    refine mp_calli (va_runV (As := [.ref (X.2.2.1 4)]) (rest := []) ⟨hx, hb, hml, hown, hts⟩ (c_X4_isHere l X G A (M) rq tp sz t kn kt hT hkt hsz a en (by omega) (by omega) hO 4 (by decide)) (cwV 1 hts gX4_itemHere_X4_isHere rfl rfl rfl (by decide +kernel) ⟨Nat.le_of_ble_eq_true rfl, Nat.le_of_ble_eq_true rfl⟩) (mp_preV hC hS hM (mp_recv hC.1 hM hO (r := (RX4, TX4, 4)) rfl)) rfl rfl hl.1 rfl (lv_room (Nat.le_of_ble_eq_true rfl)) dX4_itemHere_14 ⟨Nat.le_of_ble_eq_true rfl, Nat.le_of_ble_eq_true rfl⟩) hS (fun H locs hM hS => ?_)
    refine lv_if_eq (tgt := 22) hx hb dX4_itemHere_17 (by decide) (fun c1_ => ?_) (fun c1_ => ?_)
    · have c1_ : (pB (hereP t a en 4)) = false := bI_0.mp c1_
      refine lv_aload_n hx hb dX4_itemHere_22 rfl (lv_at hl 0 rfl) ?_
      refine va_ldcS hx hb hown (hC.2.2.1.2.2.2.2.2.2.2.1 5 (89, "height") rfl) dX4_itemHere_23 ?_
      refine mp_calli (va_runV (As := [.ref (X.2.2.1 5)]) (rest := []) ⟨hx, hb, hml, hown, hts⟩ (c_X4_isHere l X G A (M) rq tp sz t kn kt hT hkt hsz a en (by omega) (by omega) hO 5 (by decide)) (cwV 1 hts gX4_itemHere_X4_isHere rfl rfl rfl (by decide +kernel) ⟨Nat.le_of_ble_eq_true rfl, Nat.le_of_ble_eq_true rfl⟩) (mp_preV hC hS hM (mp_recv hC.1 hM hO (r := (RX4, TX4, 4)) rfl)) rfl rfl hl.1 rfl (lv_room (Nat.le_of_ble_eq_true rfl)) dX4_itemHere_25 ⟨Nat.le_of_ble_eq_true rfl, Nat.le_of_ble_eq_true rfl⟩) hS (fun H locs hM hS => ?_)
      refine lv_if_eq (tgt := 33) hx hb dX4_itemHere_28 (by decide) (fun c2_ => ?_) (fun c2_ => ?_)
      · have c2_ : (pB (hereP t a en 5)) = false := bI_0.mp c2_
        refine lv_aload_n hx hb dX4_itemHere_33 rfl (lv_at hl 0 rfl) ?_
        refine va_ldcS hx hb hown (hC.2.2.1.2.2.2.2.2.2.2.1 6 (91, "cover") rfl) dX4_itemHere_34 ?_
        refine mp_calli (va_runV (As := [.ref (X.2.2.1 6)]) (rest := []) ⟨hx, hb, hml, hown, hts⟩ (c_X4_isHere l X G A (M) rq tp sz t kn kt hT hkt hsz a en (by omega) (by omega) hO 6 (by decide)) (cwV 1 hts gX4_itemHere_X4_isHere rfl rfl rfl (by decide +kernel) ⟨Nat.le_of_ble_eq_true rfl, Nat.le_of_ble_eq_true rfl⟩) (mp_preV hC hS hM (mp_recv hC.1 hM hO (r := (RX4, TX4, 4)) rfl)) rfl rfl hl.1 rfl (lv_room (Nat.le_of_ble_eq_true rfl)) dX4_itemHere_36 ⟨Nat.le_of_ble_eq_true rfl, Nat.le_of_ble_eq_true rfl⟩) hS (fun H locs hM hS => ?_)
        refine lv_if_eq (tgt := 44) hx hb dX4_itemHere_39 (by decide) (fun c3_ => ?_) (fun c3_ => ?_)
        · have c3_ : (pB (hereP t a en 6)) = false := bI_0.mp c3_
          refine lv_aload_n hx hb dX4_itemHere_44 rfl (lv_at hl 0 rfl) ?_
          refine va_ldcS hx hb hown (hC.2.2.1.2.2.2.2.2.2.2.1 7 (93, "edge") rfl) dX4_itemHere_45 ?_
          refine mp_calli (va_runV (As := [.ref (X.2.2.1 7)]) (rest := []) ⟨hx, hb, hml, hown, hts⟩ (c_X4_isHere l X G A (M) rq tp sz t kn kt hT hkt hsz a en (by omega) (by omega) hO 7 (by decide)) (cwV 1 hts gX4_itemHere_X4_isHere rfl rfl rfl (by decide +kernel) ⟨Nat.le_of_ble_eq_true rfl, Nat.le_of_ble_eq_true rfl⟩) (mp_preV hC hS hM (mp_recv hC.1 hM hO (r := (RX4, TX4, 4)) rfl)) rfl rfl hl.1 rfl (lv_room (Nat.le_of_ble_eq_true rfl)) dX4_itemHere_47 ⟨Nat.le_of_ble_eq_true rfl, Nat.le_of_ble_eq_true rfl⟩) hS (fun H locs hM hS => ?_)
          refine lv_if_eq (tgt := 55) hx hb dX4_itemHere_50 (by decide) (fun c4_ => ?_) (fun c4_ => ?_)
          · have c4_ : (pB (hereP t a en 7)) = false := bI_0.mp c4_
            refine lv_aload_n hx hb dX4_itemHere_55 rfl (lv_at hl 0 rfl) ?_
            refine va_ldcS hx hb hown (hC.2.2.1.2.2.2.2.2.2.2.1 8 (95, "shade") rfl) dX4_itemHere_56 ?_
            refine mp_calli (va_runV (As := [.ref (X.2.2.1 8)]) (rest := []) ⟨hx, hb, hml, hown, hts⟩ (c_X4_isHere l X G A (M) rq tp sz t kn kt hT hkt hsz a en (by omega) (by omega) hO 8 (by decide)) (cwV 1 hts gX4_itemHere_X4_isHere rfl rfl rfl (by decide +kernel) ⟨Nat.le_of_ble_eq_true rfl, Nat.le_of_ble_eq_true rfl⟩) (mp_preV hC hS hM (mp_recv hC.1 hM hO (r := (RX4, TX4, 4)) rfl)) rfl rfl hl.1 rfl (lv_room (Nat.le_of_ble_eq_true rfl)) dX4_itemHere_58 ⟨Nat.le_of_ble_eq_true rfl, Nat.le_of_ble_eq_true rfl⟩) hS (fun H locs hM hS => ?_)
            refine lv_if_eq (tgt := 68) hx hb dX4_itemHere_61 (by decide) (fun c5_ => ?_) (fun c5_ => ?_)
            · have c5_ : (pB (hereP t a en 8)) = false := bI_0.mp c5_
              refine lv_iconst (v := (-1 : Int32)) hx hb dX4_itemHere_68 (by decide) ?_
              exact mp_iret hx hb hr hlocks (Nat.le_of_ble_eq_true rfl) (Nat.le_of_ble_eq_true rfl) hM hS dX4_itemHere_69 (⟨by rw [itH, c0_, c1_, c2_, c3_, c4_, c5_]; rfl, rfl⟩)
            · have c5_ : (pB (hereP t a en 8)) = true := bI_1.mp c5_
              refine lv_iconst (v := (5 : Int32)) hx hb dX4_itemHere_64 (by decide) ?_
              refine lv_goto (tgt := 69) hx hb dX4_itemHere_65 (by decide) ?_
              exact mp_iret hx hb hr hlocks (Nat.le_of_ble_eq_true rfl) (Nat.le_of_ble_eq_true rfl) hM hS dX4_itemHere_69 (⟨by rw [itH, c0_, c1_, c2_, c3_, c4_, c5_]; rfl, rfl⟩)
          · have c4_ : (pB (hereP t a en 7)) = true := bI_1.mp c4_
            refine lv_iconst (v := (4 : Int32)) hx hb dX4_itemHere_53 (by decide) ?_
            exact mp_iret hx hb hr hlocks (Nat.le_of_ble_eq_true rfl) (Nat.le_of_ble_eq_true rfl) hM hS dX4_itemHere_54 (⟨by rw [itH, c0_, c1_, c2_, c3_, c4_]; rfl, rfl⟩)
        · have c3_ : (pB (hereP t a en 6)) = true := bI_1.mp c3_
          refine lv_iconst (v := (3 : Int32)) hx hb dX4_itemHere_42 (by decide) ?_
          exact mp_iret hx hb hr hlocks (Nat.le_of_ble_eq_true rfl) (Nat.le_of_ble_eq_true rfl) hM hS dX4_itemHere_43 (⟨by rw [itH, c0_, c1_, c2_, c3_]; rfl, rfl⟩)
      · have c2_ : (pB (hereP t a en 5)) = true := bI_1.mp c2_
        refine lv_iconst (v := (2 : Int32)) hx hb dX4_itemHere_31 (by decide) ?_
        exact mp_iret hx hb hr hlocks (Nat.le_of_ble_eq_true rfl) (Nat.le_of_ble_eq_true rfl) hM hS dX4_itemHere_32 (⟨by rw [itH, c0_, c1_, c2_]; rfl, rfl⟩)
    · have c1_ : (pB (hereP t a en 4)) = true := bI_1.mp c1_
      refine lv_iconst (v := (1 : Int32)) hx hb dX4_itemHere_20 (by decide) ?_
      exact mp_iret hx hb hr hlocks (Nat.le_of_ble_eq_true rfl) (Nat.le_of_ble_eq_true rfl) hM hS dX4_itemHere_21 (⟨by rw [itH, c0_, c1_]; rfl, rfl⟩)
  · have c0_ : (pB (hereP t a en 3)) = true := bI_1.mp c0_
    refine lv_iconst (v := (0 : Int32)) hx hb dX4_itemHere_9 (by decide) ?_
    exact mp_iret hx hb hr hlocks (Nat.le_of_ble_eq_true rfl) (Nat.le_of_ble_eq_true rfl) hM hS dX4_itemHere_10 (⟨by rw [itH, c0_]; rfl, rfl⟩)
