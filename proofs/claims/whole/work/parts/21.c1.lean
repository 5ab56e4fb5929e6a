/-! ===== the class: what its cells hold ===== -/
section CAR
variable {p : Program} {l : Launch} {e : Env} {R : Room} {s : State} {m : MethodId} {args : Array Value} {below : List Frame} {meth : Method} {c : Code} {H : Heap} {locs : List Loc} {cells slots : Nat} {Q : State → Prop}
variable {cc : ByteArray} {pc : Nat} {ls : Array Slot} {rest : List Value} {X : mp_X} {G : mp_G} {A : Nat → Prop} {M : mp_M} {a n : Nat} {kn : mp_N} {f : Nat → Int32}
theorem ca_iald (hx : p.tables.exec = Jvm.exec) (hb : c.code = cc) (hC : mp_C X G A s s.heap) (hM : mp_P G.1 A M H) (ha : M kn = some (a, .inl (G.2.2.1, n, .inl f))) {j : Nat} (hj : j < n) (hl : n < 2 ^ 31) (hdg : decode cc pc = .ok (.iaload, 1))
    (kk : W p l e R s m args below meth c H locs cells slots Q (F0 m (pc + 1) ls (.int (f j) :: rest))) : W p l e R s m args below meth c H locs cells slots Q (F0 m pc ls (.int (nI j) :: .ref a :: rest)) := by
  refine va_iald hx hb hC.1 (hM.one ha) 0 1 rfl rfl (vp_in_nI hj hl) hdg ?_
  rw [nI_clamp (Nat.lt_trans hj hl)]
  exact kk
theorem ca_bald (hx : p.tables.exec = Jvm.exec) (hb : c.code = cc) (hC : mp_C X G A s s.heap) (hM : mp_P G.1 A M H) (ha : M kn = some (a, .inl (G.2.1, n, .inl f))) {j : Nat} (hj : j < n) (hl : n < 2 ^ 31) (hdg : decode cc pc = .ok (.baload, 1))
    (kk : W p l e R s m args below meth c H locs cells slots Q (F0 m (pc + 1) ls (.int (f j) :: rest))) : W p l e R s m args below meth c H locs cells slots Q (F0 m pc ls (.int (nI j) :: .ref a :: rest)) := by
  refine va_bald hx hb hC.1 (hM.one ha) 0 0 rfl rfl (vp_in_nI hj hl) hdg ?_
  rw [nI_clamp (Nat.lt_trans hj hl)]
  exact kk
end CAR
def RingAt (G : mp_G) (M : mp_M) (a : Nat) (R : rg_R) : Prop := ∃ (k kx ky : mp_N) (ax ay : Nat), M k = some (a, .inr (6, [.ref ax, .ref ay, .int (nI R.2.2)])) ∧ M kx = some (ax, .inl (G.2.2.1, 8, .inl R.1)) ∧ M ky = some (ay, .inl (G.2.2.1, 8, .inl R.2.1))
/-- plot, x0, y0, x1, y1, height, use -/
abbrev ds_D : Type := Int32 × Int32 × Int32 × Int32 × Int32 × Int32 × Int32
def DesAt (M : mp_M) (a : Nat) (d : ds_D) : Prop := ∃ k : mp_N, M k = some (a, .inr (2, [.int d.1, .int d.2.1, .int d.2.2.1, .int d.2.2.2.1, .int d.2.2.2.2.1, .int d.2.2.2.2.2.1, .int d.2.2.2.2.2.2]))
def cmpI (a b : Int64) : Int32 := if a < b then -1 else if a = b then 0 else 1
def cd_f (R : rg_R) (i : Nat) (x y d : Int32) : Int32 :=
  let ux := (R.1 ((i + 1) % R.2.2) - R.1 i).toInt64; let uy := (R.2.1 ((i + 1) % R.2.2) - R.2.1 i).toInt64; let wx := (x - R.1 i).toInt64; let wy := (y - R.2.1 i).toInt64
  let sq := d.toInt64 * d.toInt64; let whole := ux * ux + uy * uy; let along := wx * ux + wy * uy
  if 0 < along then (if along < whole then cmpI ((ux * wy - uy * wx) * (ux * wy - uy * wx)) (sq * whole) else cmpI ((wx - ux) * (wx - ux) + (wy - uy) * (wy - uy)) sq) else cmpI (wx * wx + wy * wy) sq
theorem aft_lt {i z : Nat} (h : i + 1 < z) : (i + 1) % z = i + 1 := Nat.mod_eq_of_lt h
theorem aft_ge {i z : Nat} (h : i < z) (h2 : z ≤ i + 1) : (i + 1) % z = 0 := by rw [show i + 1 = z by omega]; exact Nat.mod_self z
def rg_ar2 (R : rg_R) (i : Nat) : Int32 := R.1 i * R.2.1 ((i + 1) % R.2.2) - R.1 ((i + 1) % R.2.2) * R.2.1 i
def cdW (R O : rg_R) (d : Int32) : Prop := ∃ k, k < O.2.2 ∧ ∃ i, i < R.2.2 ∧ cd_f R i (O.1 k) (O.2.1 k) d ≤ 0
def rg_ins (R : rg_R) (x y : Int32) : Prop := ∀ i, i < R.2.2 → ¬ rg_side R i x y < 0
def cdN (R : rg_R) (x y d : Int32) : Prop := ∃ i, i < R.2.2 ∧ cd_f R i x y d < 0
abbrev rmJ13_compare_74951 : Room := { frames := 0, cells := 0, slots := 0, locals := 0 }
set_option maxHeartbeats 4000000 in
set_option maxRecDepth 100000 in
theorem c_J13_compare_74951 (l : Launch) (X : mp_X) (G : mp_G) (A : Nat → Prop) (M : mp_M) (x1 x2 : Int64) : mp_Met l X G A yJ13_compare_74951 wsJ13_compare_74951 rmJ13_compare_74951 ([.long x1, .long x2] : List Value) M (fun v M1 => v = some (.int (cmpI x1 x2)) ∧ M1 = M) 0 0 := by
  refine mp_ofW (cc := cJ13_compare_74951) (maxL := 4) (ret := (some .int)) (by decide) rfl (Nat.le_of_ble_eq_true rfl) ?_
  intro p e s m below meth c ls hx hb hr hts hown hlocks hnm hml hC hM hS hl
  have hl : lv_has ls 4 [(0, .long x1), (2, .long x2)] := hl
  have hown : s.vm.findClass RJ13 = some m.cls := hown
  refine lv_lload_n hx hb dJ13_compare_74951_0 rfl (lv_at hl 0 rfl) ?_
  refine lv_lload_n hx hb dJ13_compare_74951_1 rfl (lv_at hl 1 rfl) ?_
  refine W.lcmp hx hb dJ13_compare_74951_2 ?_
  refine lv_if_ge (tgt := 10) hx hb dJ13_compare_74951_3 (by decide) (fun c1 => ?_) (fun c1 => ?_)
  · have c1 := (lg_cmp_ge _ _).mp c1
    refine lv_lload_n hx hb dJ13_compare_74951_10 rfl (lv_at hl 0 rfl) ?_
    refine lv_lload_n hx hb dJ13_compare_74951_11 rfl (lv_at hl 1 rfl) ?_
    refine W.lcmp hx hb dJ13_compare_74951_12 ?_
    refine lv_if_ne (tgt := 20) hx hb dJ13_compare_74951_13 (by decide) (fun c3 => ?_) (fun c3 => ?_)
    · have c3 := fun q => c3 ((lg_cmp_eq _ _).mpr q)
      refine lv_iconst (v := (1 : Int32)) hx hb dJ13_compare_74951_20 (by decide) ?_
      exact mp_iret hx hb hr hlocks (Nat.le_of_ble_eq_true rfl) (Nat.le_of_ble_eq_true rfl) hM hS dJ13_compare_74951_21 (⟨by rw [cmpI, if_neg (l_nlt.mpr c1), if_neg c3], rfl⟩)
    · have c3 := (lg_cmp_eq _ _).mp c3
      refine lv_iconst (v := (0 : Int32)) hx hb dJ13_compare_74951_16 (by decide) ?_
      refine lv_goto (tgt := 21) hx hb dJ13_compare_74951_17 (by decide) ?_
      exact mp_iret hx hb hr hlocks (Nat.le_of_ble_eq_true rfl) (Nat.le_of_ble_eq_true rfl) hM hS dJ13_compare_74951_21 (⟨by rw [cmpI, if_neg (l_nlt.mpr c1), if_pos c3], rfl⟩)
  · have c1 := fun q => c1 ((lg_cmp_ge _ _).mpr q)
    refine lv_iconst (v := (-1 : Int32)) hx hb dJ13_compare_74951_6 (by decide) ?_
    refine lv_goto (tgt := 21) hx hb dJ13_compare_74951_7 (by decide) ?_
    exact mp_iret hx hb hr hlocks (Nat.le_of_ble_eq_true rfl) (Nat.le_of_ble_eq_true rfl) hM hS dJ13_compare_74951_21 (⟨by rw [cmpI, if_pos (l_nle.mp c1)], rfl⟩)
abbrev rmX7_isWithin : Room := { frames := 0, cells := 0, slots := 0, locals := 0 }
set_option maxHeartbeats 4000000 in
set_option maxRecDepth 100000 in
theorem c_X7_isWithin (l : Launch) (X : mp_X) (G : mp_G) (A : Nat → Prop) (M : mp_M) (v lo hi : Int32) : mp_Met l X G A yX7_isWithin wsX7_isWithin rmX7_isWithin ([.int v, .int lo, .int hi] : List Value) M (fun r M1 => r = some (.int (bI (pB (md_in v lo hi)))) ∧ M1 = M) 0 0 := by
  refine mp_ofW (cc := cX7_isWithin) (maxL := 3) (ret := (some .boolean)) (by decide) rfl (Nat.le_of_ble_eq_true rfl) ?_
  intro p e s m below meth c ls hx hb hr hts hown hlocks hnm hml hC hM hS hl
  have hl : lv_has ls 3 [(0, .int v), (1, .int lo), (2, .int hi)] := hl
  have hown : s.vm.findClass RX7 = some m.cls := hown
  refine lv_iload_n hx hb dX7_isWithin_0 rfl (lv_at hl 0 rfl) ?_
  refine lv_iload_n hx hb dX7_isWithin_1 rfl (lv_at hl 1 rfl) ?_
  refine lv_icmp_lt (tgt := 14) hx hb dX7_isWithin_2 (by decide) (fun c_1 => ?_) (fun c_1 => ?_)
  · have c_1 := c_1
    refine lv_iconst (v := (0 : Int32)) hx hb dX7_isWithin_14 (by decide) ?_
    exact mp_zret hx hb hr hlocks (Nat.le_of_ble_eq_true rfl) (Nat.le_of_ble_eq_true rfl) hM hS dX7_isWithin_15 (by first | rfl | exact bI_nar _) (⟨by first | exact b1 ⟨i_nlt.mp c_1, i_nlt.mp c_2⟩ | exact b0 (fun q => absurd q.1 (i_nle.mpr c_1)) | exact b0 (fun q => absurd q.2 (i_nle.mpr c_2)), rfl⟩)
  · have c_1 := c_1
    refine lv_iload_n hx hb dX7_isWithin_5 rfl (lv_at hl 0 rfl) ?_
    refine lv_iload_n hx hb dX7_isWithin_6 rfl (lv_at hl 2 rfl) ?_
    refine lv_icmp_gt (tgt := 14) hx hb dX7_isWithin_7 (by decide) (fun c_2 => ?_) (fun c_2 => ?_)
    · have c_2 := c_2
      refine lv_iconst (v := (0 : Int32)) hx hb dX7_isWithin_14 (by decide) ?_
      exact mp_zret hx hb hr hlocks (Nat.le_of_ble_eq_true rfl) (Nat.le_of_ble_eq_true rfl) hM hS dX7_isWithin_15 (by first | rfl | exact bI_nar _) (⟨by first | exact b1 ⟨i_nlt.mp c_1, i_nlt.mp c_2⟩ | exact b0 (fun q => absurd q.1 (i_nle.mpr c_1)) | exact b0 (fun q => absurd q.2 (i_nle.mpr c_2)), rfl⟩)
    · have c_2 := c_2
      refine lv_iconst (v := (1 : Int32)) hx hb dX7_isWithin_10 (by decide) ?_
      refine lv_goto (tgt := 15) hx hb dX7_isWithin_11 (by decide) ?_
      exact mp_zret hx hb hr hlocks (Nat.le_of_ble_eq_true rfl) (Nat.le_of_ble_eq_true rfl) hM hS dX7_isWithin_15 (by first | rfl | exact bI_nar _) (⟨by first | exact b1 ⟨i_nlt.mp c_1, i_nlt.mp c_2⟩ | exact b0 (fun q => absurd q.1 (i_nle.mpr c_1)) | exact b0 (fun q => absurd q.2 (i_nle.mpr c_2)), rfl⟩)
abbrev rmX5_after : Room := { frames := 0, cells := 0, slots := 0, locals := 0 }
set_option maxHeartbeats 4000000 in
set_option maxRecDepth 100000 in
theorem c_X5_after (l : Launch) (X : mp_X) (G : mp_G) (A : Nat → Prop) (M : mp_M) (r1 : Nat) (R1 : rg_R) (h1 : RingAt G M r1 R1) (hs1 : R1.2.2 ≤ 8) (i : Nat) (hi : i < R1.2.2) : mp_Met l X G A yX5_after wsX5_after rmX5_after ([.ref r1, .int (nI i)] : List Value) M (fun v M1 => v = some (.int (nI ((i + 1) % R1.2.2))) ∧ M1 = M) 0 0 := by
  refine mp_ofW (cc := cX5_after) (maxL := 2) (ret := (some .int)) (by decide) rfl (Nat.le_of_ble_eq_true rfl) ?_
  intro p e s m below meth c ls hx hb hr hts hown hlocks hnm hml hC hM hS hl
  have hl : lv_has ls 2 [(0, .ref r1), (1, .int (nI i))] := hl
  have hown : s.vm.findClass RX5 = some m.cls := hown
  have hin_wsX50 : ∀ w ∈ wsX50, w ∈ wsX5_after := fun _ h => List.mem_cons_of_mem _ (List.mem_append_right _ h)
  have fl_18 := hts (.fieldLink RX5 18 "PlanningBench$Ring" "size" "I") (List.mem_of_getElem? (i := 1) rfl)
  obtain ⟨k1, kx1, ky1, ax1, ay1, hR1, hX1, hY1⟩ := id h1
  refine lv_iload_n hx hb dX5_after_0 rfl (lv_at hl 1 rfl) ?_
  refine lv_iconst (v := (1 : Int32)) hx hb dX5_after_1 (by decide) ?_
  refine lv_iadd hx hb dX5_after_2 ?_
  refine mp_top (nI (i + 1)) (nI_add i 1) ?_
  refine lv_aload_n hx hb dX5_after_3 rfl (lv_at hl 0 rfl) ?_
  refine va_get (D := G.1) (C := RX5) (T := TX5) (N := 3) (ci := 6) hx hb hts hin_wsX50 hown hC.1 (hM.one hR1) 0 rfl rfl 2 (by decide) fl_18 (fun _ z => z) rfl dX5_after_4 ?_
  refine lv_icmp_ge (tgt := 16) hx hb dX5_after_7 (by decide) (fun c1 => ?_) (fun c1 => ?_)
  · have c1 := nn_le (a := R1.2.2) (b := i + 1) (by omega) (by omega) c1
    refine lv_iconst (v := (0 : Int32)) hx hb dX5_after_16 (by decide) ?_
    exact mp_iret hx hb hr hlocks (Nat.le_of_ble_eq_true rfl) (Nat.le_of_ble_eq_true rfl) hM hS dX5_after_17 (⟨by rw [aft_ge hi c1]; rfl, rfl⟩)
  · have c1 := nn_nle (a := R1.2.2) (b := i + 1) (by omega) (by omega) c1
    refine lv_iload_n hx hb dX5_after_10 rfl (lv_at hl 1 rfl) ?_
    refine lv_iconst (v := (1 : Int32)) hx hb dX5_after_11 (by decide) ?_
    refine lv_iadd hx hb dX5_after_12 ?_
    refine mp_top (nI (i + 1)) (nI_add i 1) ?_
    refine lv_goto (tgt := 17) hx hb dX5_after_13 (by decide) ?_
    exact mp_iret hx hb hr hlocks (Nat.le_of_ble_eq_true rfl) (Nat.le_of_ble_eq_true rfl) hM hS dX5_after_17 (⟨by rw [aft_lt c1], rfl⟩)
abbrev rmX5_leftness : Room := { frames := 1, cells := 0, slots := 0, locals := 21 }
set_option maxHeartbeats 4000000 in
set_option maxRecDepth 100000 in
theorem c_X5_leftness (l : Launch) (X : mp_X) (G : mp_G) (A : Nat → Prop) (M : mp_M) (r1 : Nat) (R1 : rg_R) (h1 : RingAt G M r1 R1) (hs1 : R1.2.2 ≤ 8) (i : Nat) (hi : i < R1.2.2) (x y : Int32) : mp_Met l X G A yX5_leftness wsX5_leftness rmX5_leftness ([.ref r1, .int (nI i), .int x, .int y] : List Value) M (fun v M1 => v = some (.int (rg_side R1 i x y)) ∧ M1 = M) 0 0 := by
  refine mp_ofW (cc := cX5_leftness) (maxL := 5) (ret := (some .int)) (by decide) rfl (Nat.le_of_ble_eq_true rfl) ?_
  intro p e s m below meth c ls hx hb hr hts hown hlocks hnm hml hC hM hS hl
  have hl : lv_has ls 5 [(0, .ref r1), (1, .int (nI i)), (2, .int x), (3, .int y)] := hl
  have hown : s.vm.findClass RX5 = some m.cls := hown
  have hin_wsX50 : ∀ w ∈ wsX50, w ∈ wsX5_leftness := fun _ h => List.mem_cons_of_mem _ (List.mem_append_right _ h)
  have fl_11 := hts (.fieldLink RX5 11 "PlanningBench$Ring" "xs" "[I") (List.mem_of_getElem? (i := 1) rfl)
  have fl_15 := hts (.fieldLink RX5 15 "PlanningBench$Ring" "ys" "[I") (List.mem_of_getElem? (i := 2) rfl)
  obtain ⟨k1, kx1, ky1, ax1, ay1, hR1, hX1, hY1⟩ := id h1
  have hmod : (i + 1) % R1.2.2 < R1.2.2 := Nat.mod_lt _ (by omega)
  refine lv_aload_n hx hb dX5_leftness_0 rfl (lv_at hl 0 rfl) ?_
  refine lv_iload_n hx hb dX5_leftness_1 rfl (lv_at hl 1 rfl) ?_
  refine mp_calli (va_runV (As := [.int (nI i)]) (rest := []) ⟨hx, hb, hml, hown, hts⟩ (c_X5_after l X G A M r1 R1 h1 hs1 i (by omega)) (cwV 1 hts gX5_leftness_X5_after rfl rfl rfl (by decide +kernel) ⟨Nat.le_of_ble_eq_true rfl, Nat.le_of_ble_eq_true rfl⟩) (mp_preV hC hS hM (mp_recv hC.1 hM hR1 (r := (RX5, TX5, 3)) rfl)) rfl rfl hl.1 rfl (lv_room (Nat.le_of_ble_eq_true rfl)) dX5_leftness_2 ⟨Nat.le_of_ble_eq_true rfl, Nat.le_of_ble_eq_true rfl⟩) hS (fun H locs hM hS => ?_)
  refine lv_istore (lv' := [(4, .int (nI ((i + 1) % R1.2.2))), (0, .ref r1), (1, .int (nI i)), (2, .int x), (3, .int y)]) hx hb dX5_leftness_5 hl (by decide) rfl (fun ls hl => ?_)
  refine lv_aload_n hx hb dX5_leftness_7 rfl (lv_at hl 1 rfl) ?_
  refine va_get (D := G.1) (C := RX5) (T := TX5) (N := 3) (ci := 6) hx hb hts hin_wsX50 hown hC.1 (hM.one hR1) 0 rfl rfl 0 (by decide) fl_11 (fun _ z => z) rfl dX5_leftness_8 ?_
  refine lv_iload hx hb dX5_leftness_11 (lv_at hl 0 rfl) ?_
  refine ca_iald hx hb hC hM hX1 (j := (i + 1) % R1.2.2) (by omega) (by decide) dX5_leftness_13 ?_
  refine lv_aload_n hx hb dX5_leftness_14 rfl (lv_at hl 1 rfl) ?_
  refine va_get (D := G.1) (C := RX5) (T := TX5) (N := 3) (ci := 6) hx hb hts hin_wsX50 hown hC.1 (hM.one hR1) 0 rfl rfl 0 (by decide) fl_11 (fun _ z => z) rfl dX5_leftness_15 ?_
  refine lv_iload_n hx hb dX5_leftness_18 rfl (lv_at hl 2 rfl) ?_
  refine ca_iald hx hb hC hM hX1 (j := i) (by omega) (by decide) dX5_leftness_19 ?_
  refine lv_isub hx hb dX5_leftness_20 ?_
  refine lv_iload_n hx hb dX5_leftness_21 rfl (lv_at hl 4 rfl) ?_
  refine lv_aload_n hx hb dX5_leftness_22 rfl (lv_at hl 1 rfl) ?_
  refine va_get (D := G.1) (C := RX5) (T := TX5) (N := 3) (ci := 6) hx hb hts hin_wsX50 hown hC.1 (hM.one hR1) 0 rfl rfl 1 (by decide) fl_15 (fun _ z => z) rfl dX5_leftness_23 ?_
  refine lv_iload_n hx hb dX5_leftness_26 rfl (lv_at hl 2 rfl) ?_
  refine ca_iald hx hb hC hM hY1 (j := i) (by omega) (by decide) dX5_leftness_27 ?_
  refine lv_isub hx hb dX5_leftness_28 ?_
  refine lv_imul hx hb dX5_leftness_29 ?_
  refine lv_aload_n hx hb dX5_leftness_30 rfl (lv_at hl 1 rfl) ?_
  refine va_get (D := G.1) (C := RX5) (T := TX5) (N := 3) (ci := 6) hx hb hts hin_wsX50 hown hC.1 (hM.one hR1) 0 rfl rfl 1 (by decide) fl_15 (fun _ z => z) rfl dX5_leftness_31 ?_
  refine lv_iload hx hb dX5_leftness_34 (lv_at hl 0 rfl) ?_
  refine ca_iald hx hb hC hM hY1 (j := (i + 1) % R1.2.2) (by omega) (by decide) dX5_leftness_36 ?_
  refine lv_aload_n hx hb dX5_leftness_37 rfl (lv_at hl 1 rfl) ?_
  refine va_get (D := G.1) (C := RX5) (T := TX5) (N := 3) (ci := 6) hx hb hts hin_wsX50 hown hC.1 (hM.one hR1) 0 rfl rfl 1 (by decide) fl_15 (fun _ z => z) rfl dX5_leftness_38 ?_
  refine lv_iload_n hx hb dX5_leftness_41 rfl (lv_at hl 2 rfl) ?_
  refine ca_iald hx hb hC hM hY1 (j := i) (by omega) (by decide) dX5_leftness_42 ?_
  refine lv_isub hx hb dX5_leftness_43 ?_
  refine lv_iload_n hx hb dX5_leftness_44 rfl (lv_at hl 3 rfl) ?_
  refine lv_aload_n hx hb dX5_leftness_45 rfl (lv_at hl 1 rfl) ?_
  refine va_get (D := G.1) (C := RX5) (T := TX5) (N := 3) (ci := 6) hx hb hts hin_wsX50 hown hC.1 (hM.one hR1) 0 rfl rfl 0 (by decide) fl_11 (fun _ z => z) rfl dX5_leftness_46 ?_
  refine lv_iload_n hx hb dX5_leftness_49 rfl (lv_at hl 2 rfl) ?_
  refine ca_iald hx hb hC hM hX1 (j := i) (by omega) (by decide) dX5_leftness_50 ?_
  refine lv_isub hx hb dX5_leftness_51 ?_
  refine lv_imul hx hb dX5_leftness_52 ?_
  refine lv_isub hx hb dX5_leftness_53 ?_
  exact mp_iret hx hb hr hlocks (Nat.le_of_ble_eq_true rfl) (Nat.le_of_ble_eq_true rfl) hM hS dX5_leftness_54 (⟨rfl, rfl⟩)
abbrev rmX5_twiceArea : Room := { frames := 1, cells := 0, slots := 0, locals := 21 }
set_option maxHeartbeats 4000000 in
set_option maxRecDepth 100000 in
theorem c_X5_twiceArea (l : Launch) (X : mp_X) (G : mp_G) (A : Nat → Prop) (M : mp_M) (r1 : Nat) (R1 : rg_R) (h1 : RingAt G M r1 R1) (hs1 : R1.2.2 ≤ 8) : mp_Met l X G A yX5_twiceArea wsX5_twiceArea rmX5_twiceArea ([.ref r1] : List Value) M (fun v M1 => v = some (.int (rg_sum (rg_ar2 R1) R1.2.2)) ∧ M1 = M) 0 0 := by
  refine mp_ofW (cc := cX5_twiceArea) (maxL := 4) (ret := (some .int)) (by decide) rfl (Nat.le_of_ble_eq_true rfl) ?_
  intro p e s m below meth c ls hx hb hr hts hown hlocks hnm hml hC hM hS hl
  have hl : lv_has ls 4 [(0, .ref r1)] := hl
  have hown : s.vm.findClass RX5 = some m.cls := hown
  have hin_wsX50 : ∀ w ∈ wsX50, w ∈ wsX5_twiceArea := fun _ h => List.mem_cons_of_mem _ (List.mem_append_right _ h)
  have fl_18 := hts (.fieldLink RX5 18 "PlanningBench$Ring" "size" "I") (List.mem_of_getElem? (i := 1) rfl)
  have fl_11 := hts (.fieldLink RX5 11 "PlanningBench$Ring" "xs" "[I") (List.mem_of_getElem? (i := 2) rfl)
  have fl_15 := hts (.fieldLink RX5 15 "PlanningBench$Ring" "ys" "[I") (List.mem_of_getElem? (i := 3) rfl)
  obtain ⟨k1, kx1, ky1, ax1, ay1, hR1, hX1, hY1⟩ := id h1
  refine lv_iconst (v := (0 : Int32)) hx hb dX5_twiceArea_0 (by decide) ?_
  refine lv_istore_n (lv' := [(1, .int (0 : Int32)), (0, .ref r1)]) hx hb dX5_twiceArea_1 rfl hl (by decide) rfl (fun ls hl => ?_)
  refine lv_iconst (v := (0 : Int32)) hx hb dX5_twiceArea_2 (by decide) ?_
  refine lv_istore_n (lv' := [(2, .int (0 : Int32)), (1, .int (0 : Int32)), (0, .ref r1)]) hx hb dX5_twiceArea_3 rfl hl (by decide) rfl (fun ls hl => ?_)
  have LP4 : ∀ (kk : Nat) (i : Nat) (ls : Array Slot) (H : Heap) (locs : List Loc), R1.2.2 - i < kk → i ≤ R1.2.2 → mp_P G.1 A M H → va_S A s.heap H locs → lv_has ls 4 [(0, .ref r1), (1, .int (rg_sum (rg_ar2 R1) i)), (2, .int (nI i))] → W p l e rmX5_twiceArea s m ([.ref r1] : List Value).toArray below meth c H locs 0 0 (MQ below (mp_Q G.1 A (fun v M1 => v = some (.int (rg_sum (rg_ar2 R1) R1.2.2)) ∧ M1 = M)) ([.ref r1] : List Value).toArray s 0 0 A) (F0 m 4 ls []) := by
    intro kk
    induction kk with
    | zero => intro i ls H locs hk; exact absurd hk (Nat.not_lt_zero _)
    | succ kk ih =>
      intro i ls H locs hk hi hM hS hl
      refine lv_iload_n hx hb dX5_twiceArea_4 rfl (lv_at hl 2 rfl) ?_
      refine lv_aload_n hx hb dX5_twiceArea_5 rfl (lv_at hl 0 rfl) ?_
      refine va_get (D := G.1) (C := RX5) (T := TX5) (N := 3) (ci := 6) hx hb hts hin_wsX50 hown hC.1 (hM.one hR1) 0 rfl rfl 2 (by decide) fl_18 (fun _ z => z) rfl dX5_twiceArea_6 ?_
      refine lv_icmp_ge (tgt := 54) hx hb dX5_twiceArea_9 (by decide) (fun c1 => ?_) (fun c1 => ?_)
      · have c1 := nn_le (a := R1.2.2) (b := i) (by omega) (by omega) c1
        refine lv_iload_n hx hb dX5_twiceArea_54 rfl (lv_at hl 1 rfl) ?_
        exact mp_iret hx hb hr hlocks (Nat.le_of_ble_eq_true rfl) (Nat.le_of_ble_eq_true rfl) hM hS dX5_twiceArea_55 (⟨by rw [show i = R1.2.2 by omega], rfl⟩)
      · have c1 := nn_nle (a := R1.2.2) (b := i) (by omega) (by omega) c1
        have hmod : (i + 1) % R1.2.2 < R1.2.2 := Nat.mod_lt _ (by omega)
        refine lv_aload_n hx hb dX5_twiceArea_12 rfl (lv_at hl 0 rfl) ?_
        refine lv_iload_n hx hb dX5_twiceArea_13 rfl (lv_at hl 2 rfl) ?_
        refine mp_calli (va_runV (As := [.int (nI i)]) (rest := []) ⟨hx, hb, hml, hown, hts⟩ (c_X5_after l X G A M r1 R1 h1 hs1 i (by omega)) (cwV 1 hts gX5_twiceArea_X5_after rfl rfl rfl (by decide +kernel) ⟨Nat.le_of_ble_eq_true rfl, Nat.le_of_ble_eq_true rfl⟩) (mp_preV hC hS hM (mp_recv hC.1 hM hR1 (r := (RX5, TX5, 3)) rfl)) rfl rfl hl.1 rfl (lv_room (Nat.le_of_ble_eq_true rfl)) dX5_twiceArea_14 ⟨Nat.le_of_ble_eq_true rfl, Nat.le_of_ble_eq_true rfl⟩) hS (fun H locs hM hS => ?_)
        refine lv_istore_n (lv' := [(3, .int (nI ((i + 1) % R1.2.2))), (0, .ref r1), (1, .int (rg_sum (rg_ar2 R1) i)), (2, .int (nI i))]) hx hb dX5_twiceArea_17 rfl hl (by decide) rfl (fun ls hl => ?_)
        refine lv_iload_n hx hb dX5_twiceArea_18 rfl (lv_at hl 2 rfl) ?_
        refine lv_aload_n hx hb dX5_twiceArea_19 rfl (lv_at hl 1 rfl) ?_
        refine va_get (D := G.1) (C := RX5) (T := TX5) (N := 3) (ci := 6) hx hb hts hin_wsX50 hown hC.1 (hM.one hR1) 0 rfl rfl 0 (by decide) fl_11 (fun _ z => z) rfl dX5_twiceArea_20 ?_
        refine lv_iload_n hx hb dX5_twiceArea_23 rfl (lv_at hl 3 rfl) ?_
        refine ca_iald hx hb hC hM hX1 (j := i) (by omega) (by decide) dX5_twiceArea_24 ?_
        refine lv_aload_n hx hb dX5_twiceArea_25 rfl (lv_at hl 1 rfl) ?_
        refine va_get (D := G.1) (C := RX5) (T := TX5) (N := 3) (ci := 6) hx hb hts hin_wsX50 hown hC.1 (hM.one hR1) 0 rfl rfl 1 (by decide) fl_15 (fun _ z => z) rfl dX5_twiceArea_26 ?_
        refine lv_iload_n hx hb dX5_twiceArea_29 rfl (lv_at hl 0 rfl) ?_
        refine ca_iald hx hb hC hM hY1 (j := (i + 1) % R1.2.2) (by omega) (by decide) dX5_twiceArea_30 ?_
        refine lv_imul hx hb dX5_twiceArea_31 ?_
        refine lv_aload_n hx hb dX5_twiceArea_32 rfl (lv_at hl 1 rfl) ?_
        refine va_get (D := G.1) (C := RX5) (T := TX5) (N := 3) (ci := 6) hx hb hts hin_wsX50 hown hC.1 (hM.one hR1) 0 rfl rfl 0 (by decide) fl_11 (fun _ z => z) rfl dX5_twiceArea_33 ?_
        refine lv_iload_n hx hb dX5_twiceArea_36 rfl (lv_at hl 0 rfl) ?_
        refine ca_iald hx hb hC hM hX1 (j := (i + 1) % R1.2.2) (by omega) (by decide) dX5_twiceArea_37 ?_
        refine lv_aload_n hx hb dX5_twiceArea_38 rfl (lv_at hl 1 rfl) ?_
        refine va_get (D := G.1) (C := RX5) (T := TX5) (N := 3) (ci := 6) hx hb hts hin_wsX50 hown hC.1 (hM.one hR1) 0 rfl rfl 1 (by decide) fl_15 (fun _ z => z) rfl dX5_twiceArea_39 ?_
        refine lv_iload_n hx hb dX5_twiceArea_42 rfl (lv_at hl 3 rfl) ?_
        refine ca_iald hx hb hC hM hY1 (j := i) (by omega) (by decide) dX5_twiceArea_43 ?_
        refine lv_imul hx hb dX5_twiceArea_44 ?_
        refine lv_isub hx hb dX5_twiceArea_45 ?_
        refine lv_iadd hx hb dX5_twiceArea_46 ?_
        refine lv_istore_n (lv' := [(1, .int ((rg_sum (rg_ar2 R1) i) + (((R1.1 i) * (R1.2.1 ((i + 1) % R1.2.2))) - ((R1.1 ((i + 1) % R1.2.2)) * (R1.2.1 i))))), (3, .int (nI ((i + 1) % R1.2.2))), (0, .ref r1), (2, .int (nI i))]) hx hb dX5_twiceArea_47 rfl hl (by decide) rfl (fun ls hl => ?_)
        refine lv_iinc (v := nI (i + 1)) (lv' := [(2, .int (nI (i + 1))), (1, .int ((rg_sum (rg_ar2 R1) i) + (((R1.1 i) * (R1.2.1 ((i + 1) % R1.2.2))) - ((R1.1 ((i + 1) % R1.2.2)) * (R1.2.1 i))))), (3, .int (nI ((i + 1) % R1.2.2))), (0, .ref r1)]) hx hb dX5_twiceArea_48 hl (k := 3) rfl (nI_1 i) (by decide) rfl (fun ls hl => ?_)
        refine lv_goto (tgt := 4) hx hb dX5_twiceArea_51 (by decide) ?_
        exact ih (i + 1) ls _ _ (by omega) (by omega) hM hS (lv_sub hl [3, 1, 0] rfl)
  exact LP4 _ 0 ls _ _ (Nat.lt_succ_self _) (Nat.zero_le _) hM hS (lv_sub hl [2, 1, 0] rfl)
abbrev rmX5_hasOthersLeftOf : Room := { frames := 2, cells := 0, slots := 0, locals := 45 }
set_option maxHeartbeats 4000000 in
set_option maxRecDepth 100000 in
theorem c_X5_hasOthersLeftOf (l : Launch) (X : mp_X) (G : mp_G) (A : Nat → Prop) (M : mp_M) (r1 : Nat) (R1 : rg_R) (h1 : RingAt G M r1 R1) (hs1 : R1.2.2 ≤ 8) (q : Nat) (hq : q < R1.2.2) : mp_Met l X G A yX5_hasOthersLeftOf wsX5_hasOthersLeftOf rmX5_hasOthersLeftOf ([.ref r1, .int (nI q)] : List Value) M (fun v M1 => v = some (.int (bI (pB (∀ k, k < R1.2.2 → k ≠ q → k ≠ (q + 1) % R1.2.2 → 0 < rg_side R1 q (R1.1 k) (R1.2.1 k))))) ∧ M1 = M) 0 0 := by
  refine mp_ofW (cc := cX5_hasOthersLeftOf) (maxL := 3) (ret := (some .boolean)) (by decide) rfl (Nat.le_of_ble_eq_true rfl) ?_
  intro p e s m below meth c ls hx hb hr hts hown hlocks hnm hml hC hM hS hl
  have hl : lv_has ls 3 [(0, .ref r1), (1, .int (nI q))] := hl
  have hown : s.vm.findClass RX5 = some m.cls := hown
  have hin_wsX50 : ∀ w ∈ wsX50, w ∈ wsX5_hasOthersLeftOf := fun _ h => List.mem_cons_of_mem _ (List.mem_append_right _ h)
  have fl_18 := hts (.fieldLink RX5 18 "PlanningBench$Ring" "size" "I") (List.mem_of_getElem? (i := 1) rfl)
  have fl_11 := hts (.fieldLink RX5 11 "PlanningBench$Ring" "xs" "[I") (List.mem_of_getElem? (i := 2) rfl)
  have fl_15 := hts (.fieldLink RX5 15 "PlanningBench$Ring" "ys" "[I") (List.mem_of_getElem? (i := 3) rfl)
  obtain ⟨k1, kx1, ky1, ax1, ay1, hR1, hX1, hY1⟩ := id h1
  have hmod : (q + 1) % R1.2.2 < R1.2.2 := Nat.mod_lt _ (by omega)
  refine lv_iconst (v := (0 : Int32)) hx hb dX5_hasOthersLeftOf_0 (by decide) ?_
  refine lv_istore_n (lv' := [(2, .int (0 : Int32)), (0, .ref r1), (1, .int (nI q))]) hx hb dX5_hasOthersLeftOf_1 rfl hl (by decide) rfl (fun ls hl => ?_)
  have LP2 : ∀ (kk : Nat) (i : Nat) (ls : Array Slot) (H : Heap) (locs : List Loc), R1.2.2 - i < kk → i ≤ R1.2.2 → (∀ k, k < i → k ≠ q → k ≠ (q + 1) % R1.2.2 → 0 < rg_side R1 q (R1.1 k) (R1.2.1 k)) → mp_P G.1 A M H → va_S A s.heap H locs → lv_has ls 3 [(0, .ref r1), (1, .int (nI q)), (2, .int (nI i))] → W p l e rmX5_hasOthersLeftOf s m ([.ref r1, .int (nI q)] : List Value).toArray below meth c H locs 0 0 (MQ below (mp_Q G.1 A (fun v M1 => v = some (.int (bI (pB (∀ k, k < R1.2.2 → k ≠ q → k ≠ (q + 1) % R1.2.2 → 0 < rg_side R1 q (R1.1 k) (R1.2.1 k))))) ∧ M1 = M)) ([.ref r1, .int (nI q)] : List Value).toArray s 0 0 A) (F0 m 2 ls []) := by
    intro kk
    induction kk with
    | zero => intro i ls H locs hk; exact absurd hk (Nat.not_lt_zero _)
    | succ kk ih =>
      intro i ls H locs hk hi hinv hM hS hl
      refine lv_iload_n hx hb dX5_hasOthersLeftOf_2 rfl (lv_at hl 2 rfl) ?_
      refine lv_aload_n hx hb dX5_hasOthersLeftOf_3 rfl (lv_at hl 0 rfl) ?_
      refine va_get (D := G.1) (C := RX5) (T := TX5) (N := 3) (ci := 6) hx hb hts hin_wsX50 hown hC.1 (hM.one hR1) 0 rfl rfl 2 (by decide) fl_18 (fun _ z => z) rfl dX5_hasOthersLeftOf_4 ?_
      refine lv_icmp_ge (tgt := 52) hx hb dX5_hasOthersLeftOf_7 (by decide) (fun c1 => ?_) (fun c1 => ?_)
      · have c1 := nn_le (a := R1.2.2) (b := i) (by omega) (by omega) c1
        refine lv_iconst (v := (1 : Int32)) hx hb dX5_hasOthersLeftOf_52 (by decide) ?_
        exact mp_zret hx hb hr hlocks (Nat.le_of_ble_eq_true rfl) (Nat.le_of_ble_eq_true rfl) hM hS dX5_hasOthersLeftOf_53 (by first | rfl | exact bI_nar _) (⟨b1 (fun k hk => hinv k (by omega)), rfl⟩)
      · have c1 := nn_nle (a := R1.2.2) (b := i) (by omega) (by omega) c1
        refine lv_iload_n hx hb dX5_hasOthersLeftOf_10 rfl (lv_at hl 2 rfl) ?_
        refine lv_iload_n hx hb dX5_hasOthersLeftOf_11 rfl (lv_at hl 1 rfl) ?_
        refine lv_icmp_eq (tgt := 46) hx hb dX5_hasOthersLeftOf_12 (by decide) (fun c2_ => ?_) (fun c2_ => ?_)
        · have c2_ := nn_eq (a := i) (b := q) (by omega) (by omega) c2_
          refine lv_iinc (v := nI (i + 1)) (lv' := [(2, .int (nI (i + 1))), (0, .ref r1), (1, .int (nI q))]) hx hb dX5_hasOthersLeftOf_46 hl (k := 2) rfl (nI_1 i) (by decide) rfl (fun ls hl => ?_)
          refine lv_goto (tgt := 2) hx hb dX5_hasOthersLeftOf_49 (by decide) ?_
          exact ih (i + 1) ls _ _ (by omega) (by omega) (fun u hu => (Nat.lt_succ_iff_lt_or_eq.mp hu).elim (hinv u) (fun z => by rw [z]; exact (fun y1 y2 => absurd c2_ y1))) hM hS (lv_sub hl [1, 2, 0] rfl)
        · have c2_ := nn_neq (a := i) (b := q) (by omega) (by omega) c2_
          refine lv_iload_n hx hb dX5_hasOthersLeftOf_15 rfl (lv_at hl 2 rfl) ?_
          refine lv_aload_n hx hb dX5_hasOthersLeftOf_16 rfl (lv_at hl 0 rfl) ?_
          refine lv_iload_n hx hb dX5_hasOthersLeftOf_17 rfl (lv_at hl 1 rfl) ?_
          refine mp_calli (va_runV (As := [.int (nI q)]) (rest := [.int (nI i)]) ⟨hx, hb, hml, hown, hts⟩ (c_X5_after l X G A M r1 R1 h1 hs1 q (by omega)) (cwV 1 hts gX5_hasOthersLeftOf_X5_after rfl rfl rfl (by decide +kernel) ⟨Nat.le_of_ble_eq_true rfl, Nat.le_of_ble_eq_true rfl⟩) (mp_preV hC hS hM (mp_recv hC.1 hM hR1 (r := (RX5, TX5, 3)) rfl)) rfl rfl hl.1 rfl (lv_room (Nat.le_of_ble_eq_true rfl)) dX5_hasOthersLeftOf_18 ⟨Nat.le_of_ble_eq_true rfl, Nat.le_of_ble_eq_true rfl⟩) hS (fun H locs hM hS => ?_)
          refine lv_icmp_eq (tgt := 46) hx hb dX5_hasOthersLeftOf_21 (by decide) (fun c3 => ?_) (fun c3 => ?_)
          · have c3 := nn_eq (a := i) (b := (q + 1) % R1.2.2) (by omega) (by omega) c3
            refine lv_iinc (v := nI (i + 1)) (lv' := [(2, .int (nI (i + 1))), (0, .ref r1), (1, .int (nI q))]) hx hb dX5_hasOthersLeftOf_46 hl (k := 2) rfl (nI_1 i) (by decide) rfl (fun ls hl => ?_)
            refine lv_goto (tgt := 2) hx hb dX5_hasOthersLeftOf_49 (by decide) ?_
            exact ih (i + 1) ls _ _ (by omega) (by omega) (fun u hu => (Nat.lt_succ_iff_lt_or_eq.mp hu).elim (hinv u) (fun z => by rw [z]; exact (fun y1 y2 => absurd c3 y2))) hM hS (lv_sub hl [1, 2, 0] rfl)
          · have c3 := nn_neq (a := i) (b := (q + 1) % R1.2.2) (by omega) (by omega) c3
            refine lv_aload_n hx hb dX5_hasOthersLeftOf_24 rfl (lv_at hl 0 rfl) ?_
            refine lv_iload_n hx hb dX5_hasOthersLeftOf_25 rfl (lv_at hl 1 rfl) ?_
            refine lv_aload_n hx hb dX5_hasOthersLeftOf_26 rfl (lv_at hl 0 rfl) ?_
            refine va_get (D := G.1) (C := RX5) (T := TX5) (N := 3) (ci := 6) hx hb hts hin_wsX50 hown hC.1 (hM.one hR1) 0 rfl rfl 0 (by decide) fl_11 (fun _ z => z) rfl dX5_hasOthersLeftOf_27 ?_
            refine lv_iload_n hx hb dX5_hasOthersLeftOf_30 rfl (lv_at hl 2 rfl) ?_
            refine ca_iald hx hb hC hM hX1 (j := i) (by omega) (by decide) dX5_hasOthersLeftOf_31 ?_
            refine lv_aload_n hx hb dX5_hasOthersLeftOf_32 rfl (lv_at hl 0 rfl) ?_
            refine va_get (D := G.1) (C := RX5) (T := TX5) (N := 3) (ci := 6) hx hb hts hin_wsX50 hown hC.1 (hM.one hR1) 0 rfl rfl 1 (by decide) fl_15 (fun _ z => z) rfl dX5_hasOthersLeftOf_33 ?_
            refine lv_iload_n hx hb dX5_hasOthersLeftOf_36 rfl (lv_at hl 2 rfl) ?_
            refine ca_iald hx hb hC hM hY1 (j := i) (by omega) (by decide) dX5_hasOthersLeftOf_37 ?_
            refine mp_calli (va_runV (As := [.int (nI q), .int (R1.1 i), .int (R1.2.1 i)]) (rest := []) ⟨hx, hb, hml, hown, hts⟩ (c_X5_leftness l X G A M r1 R1 h1 hs1 q (by omega) (R1.1 i) (R1.2.1 i)) (cwV 3 hts gX5_hasOthersLeftOf_X5_leftness rfl rfl rfl (by decide +kernel) ⟨Nat.le_of_ble_eq_true rfl, Nat.le_of_ble_eq_true rfl⟩) (mp_preV hC hS hM (mp_recv hC.1 hM hR1 (r := (RX5, TX5, 3)) rfl)) rfl rfl hl.1 rfl (lv_room (Nat.le_of_ble_eq_true rfl)) dX5_hasOthersLeftOf_38 ⟨Nat.le_of_ble_eq_true rfl, Nat.le_of_ble_eq_true rfl⟩) hS (fun H locs hM hS => ?_)
            refine lv_if_gt (tgt := 46) hx hb dX5_hasOthersLeftOf_41 (by decide) (fun c4 => ?_) (fun c4 => ?_)
            · have c4 := c4
              refine lv_iinc (v := nI (i + 1)) (lv' := [(2, .int (nI (i + 1))), (0, .ref r1), (1, .int (nI q))]) hx hb dX5_hasOthersLeftOf_46 hl (k := 2) rfl (nI_1 i) (by decide) rfl (fun ls hl => ?_)
              refine lv_goto (tgt := 2) hx hb dX5_hasOthersLeftOf_49 (by decide) ?_
              exact ih (i + 1) ls _ _ (by omega) (by omega) (fun u hu => (Nat.lt_succ_iff_lt_or_eq.mp hu).elim (hinv u) (fun z => by rw [z]; exact (fun y1 y2 => c4))) hM hS (lv_sub hl [1, 2, 0] rfl)
            · have c4 := c4
              refine lv_iconst (v := (0 : Int32)) hx hb dX5_hasOthersLeftOf_44 (by decide) ?_
              exact mp_zret hx hb hr hlocks (Nat.le_of_ble_eq_true rfl) (Nat.le_of_ble_eq_true rfl) hM hS dX5_hasOthersLeftOf_45 (by first | rfl | exact bI_nar _) (⟨b0 (fun z => c4 (z i c1 c2_ c3)), rfl⟩)
  exact LP2 _ 0 ls _ _ (Nat.lt_succ_self _) (Nat.zero_le _) (fun u hu => absurd hu (Nat.not_lt_zero u)) hM hS (lv_sub hl [1, 2, 0] rfl)
abbrev rmX5_goesRoundLeft : Room := { frames := 3, cells := 0, slots := 0, locals := 67 }
set_option maxHeartbeats 4000000 in
set_option maxRecDepth 100000 in
theorem c_X5_goesRoundLeft (l : Launch) (X : mp_X) (G : mp_G) (A : Nat → Prop) (M : mp_M) (r1 : Nat) (R1 : rg_R) (h1 : RingAt G M r1 R1) (hs1 : R1.2.2 ≤ 8) : mp_Met l X G A yX5_goesRoundLeft wsX5_goesRoundLeft rmX5_goesRoundLeft ([.ref r1] : List Value) M (fun v M1 => v = some (.int (bI (pB (rg_ok R1)))) ∧ M1 = M) 0 0 := by
  refine mp_ofW (cc := cX5_goesRoundLeft) (maxL := 2) (ret := (some .boolean)) (by decide) rfl (Nat.le_of_ble_eq_true rfl) ?_
  intro p e s m below meth c ls hx hb hr hts hown hlocks hnm hml hC hM hS hl
  have hl : lv_has ls 2 [(0, .ref r1)] := hl
  have hown : s.vm.findClass RX5 = some m.cls := hown
  have hin_wsX50 : ∀ w ∈ wsX50, w ∈ wsX5_goesRoundLeft := fun _ h => List.mem_cons_of_mem _ (List.mem_append_right _ h)
  have fl_18 := hts (.fieldLink RX5 18 "PlanningBench$Ring" "size" "I") (List.mem_of_getElem? (i := 1) rfl)
  obtain ⟨k1, kx1, ky1, ax1, ay1, hR1, hX1, hY1⟩ := id h1
  refine lv_aload_n hx hb dX5_goesRoundLeft_0 rfl (lv_at hl 0 rfl) ?_
  refine va_get (D := G.1) (C := RX5) (T := TX5) (N := 3) (ci := 6) hx hb hts hin_wsX50 hown hC.1 (hM.one hR1) 0 rfl rfl 2 (by decide) fl_18 (fun _ z => z) rfl dX5_goesRoundLeft_1 ?_
  refine lv_iconst (v := (3 : Int32)) hx hb dX5_goesRoundLeft_4 (by decide) ?_
  refine lv_icmp_ge (tgt := 10) hx hb dX5_goesRoundLeft_5 (by decide) (fun c1 => ?_) (fun c1 => ?_)
  · have c1 := nn_le (a := 3) (b := R1.2.2) (by omega) (by omega) c1
    refine lv_iconst (v := (0 : Int32)) hx hb dX5_goesRoundLeft_10 (by decide) ?_
    refine lv_istore_n (lv' := [(1, .int (0 : Int32)), (0, .ref r1)]) hx hb dX5_goesRoundLeft_11 rfl hl (by decide) rfl (fun ls hl => ?_)
    have LP12 : ∀ (kk : Nat) (i : Nat) (ls : Array Slot) (H : Heap) (locs : List Loc), R1.2.2 - i < kk → i ≤ R1.2.2 → (∀ u, u < i → ∀ k, k < R1.2.2 → k ≠ u → k ≠ (u + 1) % R1.2.2 → 0 < rg_side R1 u (R1.1 k) (R1.2.1 k)) → mp_P G.1 A M H → va_S A s.heap H locs → lv_has ls 2 [(0, .ref r1), (1, .int (nI i))] → W p l e rmX5_goesRoundLeft s m ([.ref r1] : List Value).toArray below meth c H locs 0 0 (MQ below (mp_Q G.1 A (fun v M1 => v = some (.int (bI (pB (rg_ok R1)))) ∧ M1 = M)) ([.ref r1] : List Value).toArray s 0 0 A) (F0 m 12 ls []) := by
      intro kk
      induction kk with
      | zero => intro i ls H locs hk; exact absurd hk (Nat.not_lt_zero _)
      | succ kk ih =>
        intro i ls H locs hk hi hinv hM hS hl
        refine lv_iload_n hx hb dX5_goesRoundLeft_12 rfl (lv_at hl 1 rfl) ?_
        refine lv_aload_n hx hb dX5_goesRoundLeft_13 rfl (lv_at hl 0 rfl) ?_
        refine va_get (D := G.1) (C := RX5) (T := TX5) (N := 3) (ci := 6) hx hb hts hin_wsX50 hown hC.1 (hM.one hR1) 0 rfl rfl 2 (by decide) fl_18 (fun _ z => z) rfl dX5_goesRoundLeft_14 ?_
        refine lv_icmp_ge (tgt := 36) hx hb dX5_goesRoundLeft_17 (by decide) (fun hlt => ?_) (fun hlt => ?_)
        · have hlt := nn_le (a := R1.2.2) (b := i) (by omega) (by omega) hlt
          refine lv_iconst (v := (1 : Int32)) hx hb dX5_goesRoundLeft_36 (by decide) ?_
          exact mp_zret hx hb hr hlocks (Nat.le_of_ble_eq_true rfl) (Nat.le_of_ble_eq_true rfl) hM hS dX5_goesRoundLeft_37 (by first | rfl | exact bI_nar _) (⟨b1 ⟨c1, fun u hu => hinv u (by omega)⟩, rfl⟩)
        · have hlt := nn_nle (a := R1.2.2) (b := i) (by omega) (by omega) hlt
          refine lv_aload_n hx hb dX5_goesRoundLeft_20 rfl (lv_at hl 0 rfl) ?_
          refine lv_iload_n hx hb dX5_goesRoundLeft_21 rfl (lv_at hl 1 rfl) ?_
          refine mp_calli (va_runV (As := [.int (nI i)]) (rest := []) ⟨hx, hb, hml, hown, hts⟩ (c_X5_hasOthersLeftOf l X G A M r1 R1 h1 hs1 i (by omega)) (cwV 1 hts gX5_goesRoundLeft_X5_hasOthersLeftOf rfl rfl rfl (by decide +kernel) ⟨Nat.le_of_ble_eq_true rfl, Nat.le_of_ble_eq_true rfl⟩) (mp_preV hC hS hM (mp_recv hC.1 hM hR1 (r := (RX5, TX5, 3)) rfl)) rfl rfl hl.1 rfl (lv_room (Nat.le_of_ble_eq_true rfl)) dX5_goesRoundLeft_22 ⟨Nat.le_of_ble_eq_true rfl, Nat.le_of_ble_eq_true rfl⟩) hS (fun H locs hM hS => ?_)
          refine lv_if_ne (tgt := 30) hx hb dX5_goesRoundLeft_25 (by decide) (fun c3 => ?_) (fun c3 => ?_)
          · have c3 : (pB (∀ k, k < R1.2.2 → k ≠ i → k ≠ (i + 1) % R1.2.2 → 0 < rg_side R1 i (R1.1 k) (R1.2.1 k))) = true := bI_1.mp c3
            refine lv_iinc (v := nI (i + 1)) (lv' := [(1, .int (nI (i + 1))), (0, .ref r1)]) hx hb dX5_goesRoundLeft_30 hl (k := 1) rfl (nI_1 i) (by decide) rfl (fun ls hl => ?_)
            refine lv_goto (tgt := 12) hx hb dX5_goesRoundLeft_33 (by decide) ?_
            exact ih (i + 1) ls _ _ (by omega) (by omega) (fun u hu => (Nat.lt_succ_iff_lt_or_eq.mp hu).elim (hinv u) (fun z => by rw [z]; exact pB_iff.mp c3)) hM hS (lv_sub hl [1, 0] rfl)
          · have c3 : (pB (∀ k, k < R1.2.2 → k ≠ i → k ≠ (i + 1) % R1.2.2 → 0 < rg_side R1 i (R1.1 k) (R1.2.1 k))) = false := bI_0.mp c3
            refine lv_iconst (v := (0 : Int32)) hx hb dX5_goesRoundLeft_28 (by decide) ?_
            exact mp_zret hx hb hr hlocks (Nat.le_of_ble_eq_true rfl) (Nat.le_of_ble_eq_true rfl) hM hS dX5_goesRoundLeft_29 (by first | rfl | exact bI_nar _) (⟨b0 (fun z => pB_not.mp c3 (z.2 i hlt)), rfl⟩)
    exact LP12 _ 0 ls _ _ (Nat.lt_succ_self _) (Nat.zero_le _) (fun u hu => absurd hu (Nat.not_lt_zero u)) hM hS (lv_sub hl [1, 0] rfl)
  · have c1 := nn_nle (a := 3) (b := R1.2.2) (by omega) (by omega) c1
    refine lv_iconst (v := (0 : Int32)) hx hb dX5_goesRoundLeft_8 (by decide) ?_
    exact mp_zret hx hb hr hlocks (Nat.le_of_ble_eq_true rfl) (Nat.le_of_ble_eq_true rfl) hM hS dX5_goesRoundLeft_9 (by first | rfl | exact bI_nar _) (⟨b0 (fun z => absurd z.1 (by omega)), rfl⟩)
abbrev rmX5_reachesLeftOf : Room := { frames := 2, cells := 0, slots := 0, locals := 45 }
set_option maxHeartbeats 4000000 in
set_option maxRecDepth 100000 in
theorem c_X5_reachesLeftOf (l : Launch) (X : mp_X) (G : mp_G) (A : Nat → Prop) (M : mp_M) (r1 : Nat) (R1 : rg_R) (h1 : RingAt G M r1 R1) (hs1 : R1.2.2 ≤ 8) (r2 : Nat) (R2 : rg_R) (h2 : RingAt G M r2 R2) (hs2 : R2.2.2 ≤ 8) (q : Nat) (hq : q < R1.2.2) : mp_Met l X G A yX5_reachesLeftOf wsX5_reachesLeftOf rmX5_reachesLeftOf ([.ref r1, .int (nI q), .ref r2] : List Value) M (fun v M1 => v = some (.int (bI (pB (∃ k, k < R2.2.2 ∧ 0 < rg_side R1 q (R2.1 k) (R2.2.1 k))))) ∧ M1 = M) 0 0 := by
  refine mp_ofW (cc := cX5_reachesLeftOf) (maxL := 4) (ret := (some .boolean)) (by decide) rfl (Nat.le_of_ble_eq_true rfl) ?_
  intro p e s m below meth c ls hx hb hr hts hown hlocks hnm hml hC hM hS hl
  have hl : lv_has ls 4 [(0, .ref r1), (1, .int (nI q)), (2, .ref r2)] := hl
  have hown : s.vm.findClass RX5 = some m.cls := hown
  have hin_wsX50 : ∀ w ∈ wsX50, w ∈ wsX5_reachesLeftOf := fun _ h => List.mem_cons_of_mem _ (List.mem_append_right _ h)
  have fl_18 := hts (.fieldLink RX5 18 "PlanningBench$Ring" "size" "I") (List.mem_of_getElem? (i := 1) rfl)
  have fl_11 := hts (.fieldLink RX5 11 "PlanningBench$Ring" "xs" "[I") (List.mem_of_getElem? (i := 2) rfl)
  have fl_15 := hts (.fieldLink RX5 15 "PlanningBench$Ring" "ys" "[I") (List.mem_of_getElem? (i := 3) rfl)
  obtain ⟨k1, kx1, ky1, ax1, ay1, hR1, hX1, hY1⟩ := id h1
  obtain ⟨k2, kx2, ky2, ax2, ay2, hR2, hX2, hY2⟩ := id h2
  refine lv_iconst (v := (0 : Int32)) hx hb dX5_reachesLeftOf_0 (by decide) ?_
  refine lv_istore_n (lv' := [(3, .int (0 : Int32)), (0, .ref r1), (1, .int (nI q)), (2, .ref r2)]) hx hb dX5_reachesLeftOf_1 rfl hl (by decide) rfl (fun ls hl => ?_)
  have LP2 : ∀ (kk : Nat) (i : Nat) (ls : Array Slot) (H : Heap) (locs : List Loc), R2.2.2 - i < kk → i ≤ R2.2.2 → (∀ k, k < i → ¬ 0 < rg_side R1 q (R2.1 k) (R2.2.1 k)) → mp_P G.1 A M H → va_S A s.heap H locs → lv_has ls 4 [(0, .ref r1), (1, .int (nI q)), (2, .ref r2), (3, .int (nI i))] → W p l e rmX5_reachesLeftOf s m ([.ref r1, .int (nI q), .ref r2] : List Value).toArray below meth c H locs 0 0 (MQ below (mp_Q G.1 A (fun v M1 => v = some (.int (bI (pB (∃ k, k < R2.2.2 ∧ 0 < rg_side R1 q (R2.1 k) (R2.2.1 k))))) ∧ M1 = M)) ([.ref r1, .int (nI q), .ref r2] : List Value).toArray s 0 0 A) (F0 m 2 ls []) := by
    intro kk
    induction kk with
    | zero => intro i ls H locs hk; exact absurd hk (Nat.not_lt_zero _)
    | succ kk ih =>
      intro i ls H locs hk hi hinv hM hS hl
      refine lv_iload_n hx hb dX5_reachesLeftOf_2 rfl (lv_at hl 3 rfl) ?_
      refine lv_aload_n hx hb dX5_reachesLeftOf_3 rfl (lv_at hl 2 rfl) ?_
      refine va_get (D := G.1) (C := RX5) (T := TX5) (N := 3) (ci := 6) hx hb hts hin_wsX50 hown hC.1 (hM.one hR2) 0 rfl rfl 2 (by decide) fl_18 (fun _ z => z) rfl dX5_reachesLeftOf_4 ?_
      refine lv_icmp_ge (tgt := 38) hx hb dX5_reachesLeftOf_7 (by decide) (fun c1 => ?_) (fun c1 => ?_)
      · have c1 := nn_le (a := R2.2.2) (b := i) (by omega) (by omega) c1
        refine lv_iconst (v := (0 : Int32)) hx hb dX5_reachesLeftOf_38 (by decide) ?_
        exact mp_zret hx hb hr hlocks (Nat.le_of_ble_eq_true rfl) (Nat.le_of_ble_eq_true rfl) hM hS dX5_reachesLeftOf_39 (by first | rfl | exact bI_nar _) (⟨b0 (fun ⟨k, hk, z⟩ => hinv k (by omega) z), rfl⟩)
      · have c1 := nn_nle (a := R2.2.2) (b := i) (by omega) (by omega) c1
        refine lv_aload_n hx hb dX5_reachesLeftOf_10 rfl (lv_at hl 0 rfl) ?_
        refine lv_iload_n hx hb dX5_reachesLeftOf_11 rfl (lv_at hl 1 rfl) ?_
        refine lv_aload_n hx hb dX5_reachesLeftOf_12 rfl (lv_at hl 2 rfl) ?_
        refine va_get (D := G.1) (C := RX5) (T := TX5) (N := 3) (ci := 6) hx hb hts hin_wsX50 hown hC.1 (hM.one hR2) 0 rfl rfl 0 (by decide) fl_11 (fun _ z => z) rfl dX5_reachesLeftOf_13 ?_
        refine lv_iload_n hx hb dX5_reachesLeftOf_16 rfl (lv_at hl 3 rfl) ?_
        refine ca_iald hx hb hC hM hX2 (j := i) (by omega) (by decide) dX5_reachesLeftOf_17 ?_
        refine lv_aload_n hx hb dX5_reachesLeftOf_18 rfl (lv_at hl 2 rfl) ?_
        refine va_get (D := G.1) (C := RX5) (T := TX5) (N := 3) (ci := 6) hx hb hts hin_wsX50 hown hC.1 (hM.one hR2) 0 rfl rfl 1 (by decide) fl_15 (fun _ z => z) rfl dX5_reachesLeftOf_19 ?_
        refine lv_iload_n hx hb dX5_reachesLeftOf_22 rfl (lv_at hl 3 rfl) ?_
        refine ca_iald hx hb hC hM hY2 (j := i) (by omega) (by decide) dX5_reachesLeftOf_23 ?_
        refine mp_calli (va_runV (As := [.int (nI q), .int (R2.1 i), .int (R2.2.1 i)]) (rest := []) ⟨hx, hb, hml, hown, hts⟩ (c_X5_leftness l X G A M r1 R1 h1 hs1 q (by omega) (R2.1 i) (R2.2.1 i)) (cwV 3 hts gX5_reachesLeftOf_X5_leftness rfl rfl rfl (by decide +kernel) ⟨Nat.le_of_ble_eq_true rfl, Nat.le_of_ble_eq_true rfl⟩) (mp_preV hC hS hM (mp_recv hC.1 hM hR1 (r := (RX5, TX5, 3)) rfl)) rfl rfl hl.1 rfl (lv_room (Nat.le_of_ble_eq_true rfl)) dX5_reachesLeftOf_24 ⟨Nat.le_of_ble_eq_true rfl, Nat.le_of_ble_eq_true rfl⟩) hS (fun H locs hM hS => ?_)
        refine lv_if_le (tgt := 32) hx hb dX5_reachesLeftOf_27 (by decide) (fun c3 => ?_) (fun c3 => ?_)
        · have c3 := c3
          refine lv_iinc (v := nI (i + 1)) (lv' := [(3, .int (nI (i + 1))), (0, .ref r1), (1, .int (nI q)), (2, .ref r2)]) hx hb dX5_reachesLeftOf_32 hl (k := 3) rfl (nI_1 i) (by decide) rfl (fun ls hl => ?_)
          refine lv_goto (tgt := 2) hx hb dX5_reachesLeftOf_35 (by decide) ?_
          exact ih (i + 1) ls _ _ (by omega) (by omega) (fun u hu => (Nat.lt_succ_iff_lt_or_eq.mp hu).elim (hinv u) (fun z => by rw [z]; exact (i_nlt.mpr c3))) hM hS (lv_sub hl [1, 2, 3, 0] rfl)
        · have c3 := c3
          refine lv_iconst (v := (1 : Int32)) hx hb dX5_reachesLeftOf_30 (by decide) ?_
          exact mp_zret hx hb hr hlocks (Nat.le_of_ble_eq_true rfl) (Nat.le_of_ble_eq_true rfl) hM hS dX5_reachesLeftOf_31 (by first | rfl | exact bI_nar _) (⟨b1 ⟨i, c1, i_nle.mp c3⟩, rfl⟩)
  exact LP2 _ 0 ls _ _ (Nat.lt_succ_self _) (Nat.zero_le _) (fun u hu => absurd hu (Nat.not_lt_zero u)) hM hS (lv_sub hl [1, 2, 3, 0] rfl)
abbrev rmX5_hasSideBefore : Room := { frames := 3, cells := 0, slots := 0, locals := 68 }
set_option maxHeartbeats 4000000 in
set_option maxRecDepth 100000 in
theorem c_X5_hasSideBefore (l : Launch) (X : mp_X) (G : mp_G) (A : Nat → Prop) (M : mp_M) (r1 : Nat) (R1 : rg_R) (h1 : RingAt G M r1 R1) (hs1 : R1.2.2 ≤ 8) (r2 : Nat) (R2 : rg_R) (h2 : RingAt G M r2 R2) (hs2 : R2.2.2 ≤ 8) : mp_Met l X G A yX5_hasSideBefore wsX5_hasSideBefore rmX5_hasSideBefore ([.ref r1, .ref r2] : List Value) M (fun v M1 => v = some (.int (bI (pB (rg_parts R1 R2)))) ∧ M1 = M) 0 0 := by
  refine mp_ofW (cc := cX5_hasSideBefore) (maxL := 3) (ret := (some .boolean)) (by decide) rfl (Nat.le_of_ble_eq_true rfl) ?_
  intro p e s m below meth c ls hx hb hr hts hown hlocks hnm hml hC hM hS hl
  have hl : lv_has ls 3 [(0, .ref r1), (1, .ref r2)] := hl
  have hown : s.vm.findClass RX5 = some m.cls := hown
  have hin_wsX50 : ∀ w ∈ wsX50, w ∈ wsX5_hasSideBefore := fun _ h => List.mem_cons_of_mem _ (List.mem_append_right _ h)
  have fl_18 := hts (.fieldLink RX5 18 "PlanningBench$Ring" "size" "I") (List.mem_of_getElem? (i := 1) rfl)
  obtain ⟨k1, kx1, ky1, ax1, ay1, hR1, hX1, hY1⟩ := id h1
  obtain ⟨k2, kx2, ky2, ax2, ay2, hR2, hX2, hY2⟩ := id h2
  refine lv_iconst (v := (0 : Int32)) hx hb dX5_hasSideBefore_0 (by decide) ?_
  refine lv_istore_n (lv' := [(2, .int (0 : Int32)), (0, .ref r1), (1, .ref r2)]) hx hb dX5_hasSideBefore_1 rfl hl (by decide) rfl (fun ls hl => ?_)
  have LP2 : ∀ (kk : Nat) (i : Nat) (ls : Array Slot) (H : Heap) (locs : List Loc), R1.2.2 - i < kk → i ≤ R1.2.2 → (∀ u, u < i → (∃ k, k < R2.2.2 ∧ 0 < rg_side R1 u (R2.1 k) (R2.2.1 k))) → mp_P G.1 A M H → va_S A s.heap H locs → lv_has ls 3 [(0, .ref r1), (1, .ref r2), (2, .int (nI i))] → W p l e rmX5_hasSideBefore s m ([.ref r1, .ref r2] : List Value).toArray below meth c H locs 0 0 (MQ below (mp_Q G.1 A (fun v M1 => v = some (.int (bI (pB (rg_parts R1 R2)))) ∧ M1 = M)) ([.ref r1, .ref r2] : List Value).toArray s 0 0 A) (F0 m 2 ls []) := by
    intro kk
    induction kk with
    | zero => intro i ls H locs hk; exact absurd hk (Nat.not_lt_zero _)
    | succ kk ih =>
      intro i ls H locs hk hi hinv hM hS hl
      refine lv_iload_n hx hb dX5_hasSideBefore_2 rfl (lv_at hl 2 rfl) ?_
      refine lv_aload_n hx hb dX5_hasSideBefore_3 rfl (lv_at hl 0 rfl) ?_
      refine va_get (D := G.1) (C := RX5) (T := TX5) (N := 3) (ci := 6) hx hb hts hin_wsX50 hown hC.1 (hM.one hR1) 0 rfl rfl 2 (by decide) fl_18 (fun _ z => z) rfl dX5_hasSideBefore_4 ?_
      refine lv_icmp_ge (tgt := 27) hx hb dX5_hasSideBefore_7 (by decide) (fun c1 => ?_) (fun c1 => ?_)
      · have c1 := nn_le (a := R1.2.2) (b := i) (by omega) (by omega) c1
        refine lv_iconst (v := (0 : Int32)) hx hb dX5_hasSideBefore_27 (by decide) ?_
        exact mp_zret hx hb hr hlocks (Nat.le_of_ble_eq_true rfl) (Nat.le_of_ble_eq_true rfl) hM hS dX5_hasSideBefore_28 (by first | rfl | exact bI_nar _) (⟨b0 (fun ⟨u, hu, z⟩ => (hinv u (by omega)).elim (fun k hk => absurd hk.2 (i_nlt.mpr (z k hk.1)))), rfl⟩)
      · have c1 := nn_nle (a := R1.2.2) (b := i) (by omega) (by omega) c1
        refine lv_aload_n hx hb dX5_hasSideBefore_10 rfl (lv_at hl 0 rfl) ?_
        refine lv_iload_n hx hb dX5_hasSideBefore_11 rfl (lv_at hl 2 rfl) ?_
        refine lv_aload_n hx hb dX5_hasSideBefore_12 rfl (lv_at hl 1 rfl) ?_
        refine mp_calli (va_runV (As := [.int (nI i), .ref r2]) (rest := []) ⟨hx, hb, hml, hown, hts⟩ (c_X5_reachesLeftOf l X G A M r1 R1 h1 hs1 r2 R2 h2 hs2 i (by omega)) (cwV 2 hts gX5_hasSideBefore_X5_reachesLeftOf rfl rfl rfl (by decide +kernel) ⟨Nat.le_of_ble_eq_true rfl, Nat.le_of_ble_eq_true rfl⟩) (mp_preV hC hS hM (mp_recv hC.1 hM hR1 (r := (RX5, TX5, 3)) rfl)) rfl rfl hl.1 rfl (lv_room (Nat.le_of_ble_eq_true rfl)) dX5_hasSideBefore_13 ⟨Nat.le_of_ble_eq_true rfl, Nat.le_of_ble_eq_true rfl⟩) hS (fun H locs hM hS => ?_)
        refine lv_if_ne (tgt := 21) hx hb dX5_hasSideBefore_16 (by decide) (fun c3 => ?_) (fun c3 => ?_)
        · have c3 : (pB (∃ k, k < R2.2.2 ∧ 0 < rg_side R1 i (R2.1 k) (R2.2.1 k))) = true := bI_1.mp c3
          refine lv_iinc (v := nI (i + 1)) (lv' := [(2, .int (nI (i + 1))), (0, .ref r1), (1, .ref r2)]) hx hb dX5_hasSideBefore_21 hl (k := 2) rfl (nI_1 i) (by decide) rfl (fun ls hl => ?_)
          refine lv_goto (tgt := 2) hx hb dX5_hasSideBefore_24 (by decide) ?_
          exact ih (i + 1) ls _ _ (by omega) (by omega) (fun u hu => (Nat.lt_succ_iff_lt_or_eq.mp hu).elim (hinv u) (fun z => by rw [z]; exact pB_iff.mp c3)) hM hS (lv_sub hl [1, 2, 0] rfl)
        · have c3 : (pB (∃ k, k < R2.2.2 ∧ 0 < rg_side R1 i (R2.1 k) (R2.2.1 k))) = false := bI_0.mp c3
          refine lv_iconst (v := (1 : Int32)) hx hb dX5_hasSideBefore_19 (by decide) ?_
          exact mp_zret hx hb hr hlocks (Nat.le_of_ble_eq_true rfl) (Nat.le_of_ble_eq_true rfl) hM hS dX5_hasSideBefore_20 (by first | rfl | exact bI_nar _) (⟨b1 ⟨i, c1, fun k hk => i_nlt.mp (fun z => pB_not.mp c3 ⟨k, hk, z⟩)⟩, rfl⟩)
  exact LP2 _ 0 ls _ _ (Nat.lt_succ_self _) (Nat.zero_le _) (fun u hu => absurd hu (Nat.not_lt_zero u)) hM hS (lv_sub hl [1, 2, 0] rfl)
abbrev rmX5_overlaps : Room := { frames := 4, cells := 0, slots := 0, locals := 90 }
set_option maxHeartbeats 4000000 in
set_option maxRecDepth 100000 in
theorem c_X5_overlaps (l : Launch) (X : mp_X) (G : mp_G) (A : Nat → Prop) (M : mp_M) (r1 : Nat) (R1 : rg_R) (h1 : RingAt G M r1 R1) (hs1 : R1.2.2 ≤ 8) (r2 : Nat) (R2 : rg_R) (h2 : RingAt G M r2 R2) (hs2 : R2.2.2 ≤ 8) : mp_Met l X G A yX5_overlaps wsX5_overlaps rmX5_overlaps ([.ref r1, .ref r2] : List Value) M (fun v M1 => v = some (.int (bI (pB (¬ rg_parts R1 R2 ∧ ¬ rg_parts R2 R1)))) ∧ M1 = M) 0 0 := by
  refine mp_ofW (cc := cX5_overlaps) (maxL := 2) (ret := (some .boolean)) (by decide) rfl (Nat.le_of_ble_eq_true rfl) ?_
  intro p e s m below meth c ls hx hb hr hts hown hlocks hnm hml hC hM hS hl
  have hl : lv_has ls 2 [(0, .ref r1), (1, .ref r2)] := hl
  have hown : s.vm.findClass RX5 = some m.cls := hown
  obtain ⟨k1, kx1, ky1, ax1, ay1, hR1, hX1, hY1⟩ := id h1
  obtain ⟨k2, kx2, ky2, ax2, ay2, hR2, hX2, hY2⟩ := id h2
  refine lv_aload_n hx hb dX5_overlaps_0 rfl (lv_at hl 0 rfl) ?_
  refine lv_aload_n hx hb dX5_overlaps_1 rfl (lv_at hl 1 rfl) ?_
  refine mp_calli (va_runV (As := [.ref r2]) (rest := []) ⟨hx, hb, hml, hown, hts⟩ (c_X5_hasSideBefore l X G A M r1 R1 h1 hs1 r2 R2 h2 hs2) (cwV 1 hts gX5_overlaps_X5_hasSideBefore rfl rfl rfl (by decide +kernel) ⟨Nat.le_of_ble_eq_true rfl, Nat.le_of_ble_eq_true rfl⟩) (mp_preV hC hS hM (mp_recv hC.1 hM hR1 (r := (RX5, TX5, 3)) rfl)) rfl rfl hl.1 rfl (lv_room (Nat.le_of_ble_eq_true rfl)) dX5_overlaps_2 ⟨Nat.le_of_ble_eq_true rfl, Nat.le_of_ble_eq_true rfl⟩) hS (fun H locs hM hS => ?_)
  refine lv_if_ne (tgt := 20) hx hb dX5_overlaps_5 (by decide) (fun c1 => ?_) (fun c1 => ?_)
  · have c1 : (pB (rg_parts R1 R2)) = true := bI_1.mp c1
    refine lv_iconst (v := (0 : Int32)) hx hb dX5_overlaps_20 (by decide) ?_
    exact mp_zret hx hb hr hlocks (Nat.le_of_ble_eq_true rfl) (Nat.le_of_ble_eq_true rfl) hM hS dX5_overlaps_21 (by first | rfl | exact bI_nar _) (⟨b0 (fun z => z.1 (pB_iff.mp c1)), rfl⟩)
  · have c1 : (pB (rg_parts R1 R2)) = false := bI_0.mp c1
    refine lv_aload_n hx hb dX5_overlaps_8 rfl (lv_at hl 1 rfl) ?_
    refine lv_aload_n hx hb dX5_overlaps_9 rfl (lv_at hl 0 rfl) ?_
    refine mp_calli (va_runV (As := [.ref r1]) (rest := []) ⟨hx, hb, hml, hown, hts⟩ (c_X5_hasSideBefore l X G A M r2 R2 h2 hs2 r1 R1 h1 hs1) (cwV 1 hts gX5_overlaps_X5_hasSideBefore rfl rfl rfl (by decide +kernel) ⟨Nat.le_of_ble_eq_true rfl, Nat.le_of_ble_eq_true rfl⟩) (mp_preV hC hS hM (mp_recv hC.1 hM hR2 (r := (RX5, TX5, 3)) rfl)) rfl rfl hl.1 rfl (lv_room (Nat.le_of_ble_eq_true rfl)) dX5_overlaps_10 ⟨Nat.le_of_ble_eq_true rfl, Nat.le_of_ble_eq_true rfl⟩) hS (fun H locs hM hS => ?_)
    refine lv_if_ne (tgt := 20) hx hb dX5_overlaps_13 (by decide) (fun c3 => ?_) (fun c3 => ?_)
    · have c3 : (pB (rg_parts R2 R1)) = true := bI_1.mp c3
      refine lv_iconst (v := (0 : Int32)) hx hb dX5_overlaps_20 (by decide) ?_
      exact mp_zret hx hb hr hlocks (Nat.le_of_ble_eq_true rfl) (Nat.le_of_ble_eq_true rfl) hM hS dX5_overlaps_21 (by first | rfl | exact bI_nar _) (⟨b0 (fun z => z.2 (pB_iff.mp c3)), rfl⟩)
    · have c3 : (pB (rg_parts R2 R1)) = false := bI_0.mp c3
      refine lv_iconst (v := (1 : Int32)) hx hb dX5_overlaps_16 (by decide) ?_
      refine lv_goto (tgt := 21) hx hb dX5_overlaps_17 (by decide) ?_
      exact mp_zret hx hb hr hlocks (Nat.le_of_ble_eq_true rfl) (Nat.le_of_ble_eq_true rfl) hM hS dX5_overlaps_21 (by first | rfl | exact bI_nar _) (⟨b1 ⟨pB_not.mp c1, pB_not.mp c3⟩, rfl⟩)
abbrev rmX5_compareDistance : Room := { frames := 1, cells := 0, slots := 0, locals := 23 }
set_option maxHeartbeats 4000000 in
set_option maxRecDepth 100000 in
theorem c_X5_compareDistance (l : Launch) (X : mp_X) (G : mp_G) (A : Nat → Prop) (M : mp_M) (r1 : Nat) (R1 : rg_R) (h1 : RingAt G M r1 R1) (hs1 : R1.2.2 ≤ 8) (i : Nat) (hi : i < R1.2.2) (x y d : Int32) : mp_Met l X G A yX5_compareDistance wsX5_compareDistance rmX5_compareDistance ([.ref r1, .int (nI i), .int x, .int y, .int d] : List Value) M (fun v M1 => v = some (.int (cd_f R1 i x y d)) ∧ M1 = M) 0 0 := by
  refine mp_ofW (cc := cX5_compareDistance) (maxL := 24) (ret := (some .int)) (by decide) rfl (Nat.le_of_ble_eq_true rfl) ?_
  intro p e s m below meth c ls hx hb hr hts hown hlocks hnm hml hC hM hS hl
  have hl : lv_has ls 24 [(0, .ref r1), (1, .int (nI i)), (2, .int x), (3, .int y), (4, .int d)] := hl
  have hown : s.vm.findClass RX5 = some m.cls := hown
  have hin_wsX50 : ∀ w ∈ wsX50, w ∈ wsX5_compareDistance := fun _ h => List.mem_cons_of_mem _ (List.mem_append_right _ h)
  have fl_11 := hts (.fieldLink RX5 11 "PlanningBench$Ring" "xs" "[I") (List.mem_of_getElem? (i := 1) rfl)
  have fl_15 := hts (.fieldLink RX5 15 "PlanningBench$Ring" "ys" "[I") (List.mem_of_getElem? (i := 2) rfl)
  obtain ⟨k1, kx1, ky1, ax1, ay1, hR1, hX1, hY1⟩ := id h1
  have hmod : (i + 1) % R1.2.2 < R1.2.2 := Nat.mod_lt _ (by omega)
  refine lv_aload_n hx hb dX5_compareDistance_0 rfl (lv_at hl 0 rfl) ?_
  refine lv_iload_n hx hb dX5_compareDistance_1 rfl (lv_at hl 1 rfl) ?_
  refine mp_calli (va_runV (As := [.int (nI i)]) (rest := []) ⟨hx, hb, hml, hown, hts⟩ (c_X5_after l X G A M r1 R1 h1 hs1 i (by omega)) (cwV 1 hts gX5_compareDistance_X5_after rfl rfl rfl (by decide +kernel) ⟨Nat.le_of_ble_eq_true rfl, Nat.le_of_ble_eq_true rfl⟩) (mp_preV hC hS hM (mp_recv hC.1 hM hR1 (r := (RX5, TX5, 3)) rfl)) rfl rfl hl.1 rfl (lv_room (Nat.le_of_ble_eq_true rfl)) dX5_compareDistance_2 ⟨Nat.le_of_ble_eq_true rfl, Nat.le_of_ble_eq_true rfl⟩) hS (fun H locs hM hS => ?_)
  refine lv_istore (lv' := [(5, .int (nI ((i + 1) % R1.2.2))), (0, .ref r1), (1, .int (nI i)), (2, .int x), (3, .int y), (4, .int d)]) hx hb dX5_compareDistance_5 hl (by decide) rfl (fun ls hl => ?_)
  refine lv_aload_n hx hb dX5_compareDistance_7 rfl (lv_at hl 1 rfl) ?_
  refine va_get (D := G.1) (C := RX5) (T := TX5) (N := 3) (ci := 6) hx hb hts hin_wsX50 hown hC.1 (hM.one hR1) 0 rfl rfl 0 (by decide) fl_11 (fun _ z => z) rfl dX5_compareDistance_8 ?_
  refine lv_iload hx hb dX5_compareDistance_11 (lv_at hl 0 rfl) ?_
  refine ca_iald hx hb hC hM hX1 (j := (i + 1) % R1.2.2) (by omega) (by decide) dX5_compareDistance_13 ?_
  refine lv_aload_n hx hb dX5_compareDistance_14 rfl (lv_at hl 1 rfl) ?_
  refine va_get (D := G.1) (C := RX5) (T := TX5) (N := 3) (ci := 6) hx hb hts hin_wsX50 hown hC.1 (hM.one hR1) 0 rfl rfl 0 (by decide) fl_11 (fun _ z => z) rfl dX5_compareDistance_15 ?_
  refine lv_iload_n hx hb dX5_compareDistance_18 rfl (lv_at hl 2 rfl) ?_
  refine ca_iald hx hb hC hM hX1 (j := i) (by omega) (by decide) dX5_compareDistance_19 ?_
  refine lv_isub hx hb dX5_compareDistance_20 ?_
  refine lv_i2l hx hb dX5_compareDistance_21 rfl ?_
  refine lv_lstore (lv' := [(6, .long (((R1.1 ((i + 1) % R1.2.2)) - (R1.1 i)).toInt64)), (5, .int (nI ((i + 1) % R1.2.2))), (0, .ref r1), (1, .int (nI i)), (2, .int x), (3, .int y), (4, .int d)]) hx hb dX5_compareDistance_22 hl (by decide) rfl (fun ls hl => ?_)
  refine lv_aload_n hx hb dX5_compareDistance_24 rfl (lv_at hl 2 rfl) ?_
  refine va_get (D := G.1) (C := RX5) (T := TX5) (N := 3) (ci := 6) hx hb hts hin_wsX50 hown hC.1 (hM.one hR1) 0 rfl rfl 1 (by decide) fl_15 (fun _ z => z) rfl dX5_compareDistance_25 ?_
  refine lv_iload hx hb dX5_compareDistance_28 (lv_at hl 1 rfl) ?_
  refine ca_iald hx hb hC hM hY1 (j := (i + 1) % R1.2.2) (by omega) (by decide) dX5_compareDistance_30 ?_
  refine lv_aload_n hx hb dX5_compareDistance_31 rfl (lv_at hl 2 rfl) ?_
  refine va_get (D := G.1) (C := RX5) (T := TX5) (N := 3) (ci := 6) hx hb hts hin_wsX50 hown hC.1 (hM.one hR1) 0 rfl rfl 1 (by decide) fl_15 (fun _ z => z) rfl dX5_compareDistance_32 ?_
  refine lv_iload_n hx hb dX5_compareDistance_35 rfl (lv_at hl 3 rfl) ?_
  refine ca_iald hx hb hC hM hY1 (j := i) (by omega) (by decide) dX5_compareDistance_36 ?_
  refine lv_isub hx hb dX5_compareDistance_37 ?_
  refine lv_i2l hx hb dX5_compareDistance_38 rfl ?_
  refine lv_lstore (lv' := [(8, .long (((R1.2.1 ((i + 1) % R1.2.2)) - (R1.2.1 i)).toInt64)), (6, .long (((R1.1 ((i + 1) % R1.2.2)) - (R1.1 i)).toInt64)), (5, .int (nI ((i + 1) % R1.2.2))), (0, .ref r1), (1, .int (nI i)), (2, .int x), (3, .int y), (4, .int d)]) hx hb dX5_compareDistance_39 hl (by decide) rfl (fun ls hl => ?_)
  refine lv_iload_n hx hb dX5_compareDistance_41 rfl (lv_at hl 5 rfl) ?_
  refine lv_aload_n hx hb dX5_compareDistance_42 rfl (lv_at hl 3 rfl) ?_
  refine va_get (D := G.1) (C := RX5) (T := TX5) (N := 3) (ci := 6) hx hb hts hin_wsX50 hown hC.1 (hM.one hR1) 0 rfl rfl 0 (by decide) fl_11 (fun _ z => z) rfl dX5_compareDistance_43 ?_
  refine lv_iload_n hx hb dX5_compareDistance_46 rfl (lv_at hl 4 rfl) ?_
  refine ca_iald hx hb hC hM hX1 (j := i) (by omega) (by decide) dX5_compareDistance_47 ?_
  refine lv_isub hx hb dX5_compareDistance_48 ?_
  refine lv_i2l hx hb dX5_compareDistance_49 rfl ?_
  refine lv_lstore (lv' := [(10, .long ((x - (R1.1 i)).toInt64)), (8, .long (((R1.2.1 ((i + 1) % R1.2.2)) - (R1.2.1 i)).toInt64)), (6, .long (((R1.1 ((i + 1) % R1.2.2)) - (R1.1 i)).toInt64)), (5, .int (nI ((i + 1) % R1.2.2))), (0, .ref r1), (1, .int (nI i)), (2, .int x), (3, .int y), (4, .int d)]) hx hb dX5_compareDistance_50 hl (by decide) rfl (fun ls hl => ?_)
  refine lv_iload_n hx hb dX5_compareDistance_52 rfl (lv_at hl 7 rfl) ?_
  refine lv_aload_n hx hb dX5_compareDistance_53 rfl (lv_at hl 4 rfl) ?_
  refine va_get (D := G.1) (C := RX5) (T := TX5) (N := 3) (ci := 6) hx hb hts hin_wsX50 hown hC.1 (hM.one hR1) 0 rfl rfl 1 (by decide) fl_15 (fun _ z => z) rfl dX5_compareDistance_54 ?_
  refine lv_iload_n hx hb dX5_compareDistance_57 rfl (lv_at hl 5 rfl) ?_
  refine ca_iald hx hb hC hM hY1 (j := i) (by omega) (by decide) dX5_compareDistance_58 ?_
  refine lv_isub hx hb dX5_compareDistance_59 ?_
  refine lv_i2l hx hb dX5_compareDistance_60 rfl ?_
  refine lv_lstore (lv' := [(12, .long ((y - (R1.2.1 i)).toInt64)), (10, .long ((x - (R1.1 i)).toInt64)), (8, .long (((R1.2.1 ((i + 1) % R1.2.2)) - (R1.2.1 i)).toInt64)), (6, .long (((R1.1 ((i + 1) % R1.2.2)) - (R1.1 i)).toInt64)), (5, .int (nI ((i + 1) % R1.2.2))), (0, .ref r1), (1, .int (nI i)), (2, .int x), (3, .int y), (4, .int d)]) hx hb dX5_compareDistance_61 hl (by decide) rfl (fun ls hl => ?_)
  refine lv_iload hx hb dX5_compareDistance_63 (lv_at hl 9 rfl) ?_
  refine lv_i2l hx hb dX5_compareDistance_65 rfl ?_
  refine lv_iload hx hb dX5_compareDistance_66 (lv_at hl 9 rfl) ?_
  refine lv_i2l hx hb dX5_compareDistance_68 rfl ?_
  refine lv_lmul hx hb dX5_compareDistance_69 ?_
  refine lv_lstore (lv' := [(14, .long (d.toInt64 * d.toInt64)), (12, .long ((y - (R1.2.1 i)).toInt64)), (10, .long ((x - (R1.1 i)).toInt64)), (8, .long (((R1.2.1 ((i + 1) % R1.2.2)) - (R1.2.1 i)).toInt64)), (6, .long (((R1.1 ((i + 1) % R1.2.2)) - (R1.1 i)).toInt64)), (5, .int (nI ((i + 1) % R1.2.2))), (0, .ref r1), (1, .int (nI i)), (2, .int x), (3, .int y), (4, .int d)]) hx hb dX5_compareDistance_70 hl (by decide) rfl (fun ls hl => ?_)
  refine lv_lload hx hb dX5_compareDistance_72 (lv_at hl 4 rfl) ?_
  refine lv_lload hx hb dX5_compareDistance_74 (lv_at hl 4 rfl) ?_
  refine lv_lmul hx hb dX5_compareDistance_76 ?_
  refine lv_lload hx hb dX5_compareDistance_77 (lv_at hl 3 rfl) ?_
  refine lv_lload hx hb dX5_compareDistance_79 (lv_at hl 3 rfl) ?_
  refine lv_lmul hx hb dX5_compareDistance_81 ?_
  refine lv_ladd hx hb dX5_compareDistance_82 ?_
  refine lv_lstore (lv' := [(16, .long (((((R1.1 ((i + 1) % R1.2.2)) - (R1.1 i)).toInt64) * (((R1.1 ((i + 1) % R1.2.2)) - (R1.1 i)).toInt64)) + ((((R1.2.1 ((i + 1) % R1.2.2)) - (R1.2.1 i)).toInt64) * (((R1.2.1 ((i + 1) % R1.2.2)) - (R1.2.1 i)).toInt64)))), (14, .long (d.toInt64 * d.toInt64)), (12, .long ((y - (R1.2.1 i)).toInt64)), (10, .long ((x - (R1.1 i)).toInt64)), (8, .long (((R1.2.1 ((i + 1) % R1.2.2)) - (R1.2.1 i)).toInt64)), (6, .long (((R1.1 ((i + 1) % R1.2.2)) - (R1.1 i)).toInt64)), (5, .int (nI ((i + 1) % R1.2.2))), (0, .ref r1), (1, .int (nI i)), (2, .int x), (3, .int y), (4, .int d)]) hx hb dX5_compareDistance_83 hl (by decide) rfl (fun ls hl => ?_)
  refine lv_lload hx hb dX5_compareDistance_85 (lv_at hl 3 rfl) ?_
  refine lv_lload hx hb dX5_compareDistance_87 (lv_at hl 5 rfl) ?_
  refine lv_lmul hx hb dX5_compareDistance_89 ?_
  refine lv_lload hx hb dX5_compareDistance_90 (lv_at hl 2 rfl) ?_
  refine lv_lload hx hb dX5_compareDistance_92 (lv_at hl 4 rfl) ?_
  refine lv_lmul hx hb dX5_compareDistance_94 ?_
  refine lv_ladd hx hb dX5_compareDistance_95 ?_
  refine lv_lstore (lv' := [(18, .long ((((x - (R1.1 i)).toInt64) * (((R1.1 ((i + 1) % R1.2.2)) - (R1.1 i)).toInt64)) + (((y - (R1.2.1 i)).toInt64) * (((R1.2.1 ((i + 1) % R1.2.2)) - (R1.2.1 i)).toInt64)))), (16, .long (((((R1.1 ((i + 1) % R1.2.2)) - (R1.1 i)).toInt64) * (((R1.1 ((i + 1) % R1.2.2)) - (R1.1 i)).toInt64)) + ((((R1.2.1 ((i + 1) % R1.2.2)) - (R1.2.1 i)).toInt64) * (((R1.2.1 ((i + 1) % R1.2.2)) - (R1.2.1 i)).toInt64)))), (14, .long (d.toInt64 * d.toInt64)), (12, .long ((y - (R1.2.1 i)).toInt64)), (10, .long ((x - (R1.1 i)).toInt64)), (8, .long (((R1.2.1 ((i + 1) % R1.2.2)) - (R1.2.1 i)).toInt64)), (6, .long (((R1.1 ((i + 1) % R1.2.2)) - (R1.1 i)).toInt64)), (5, .int (nI ((i + 1) % R1.2.2))), (0, .ref r1), (1, .int (nI i)), (2, .int x), (3, .int y), (4, .int d)]) hx hb dX5_compareDistance_96 hl (by decide) rfl (fun ls hl => ?_)
  refine lv_lload hx hb dX5_compareDistance_98 (lv_at hl 0 rfl) ?_
  refine lv_lconst (v := (0 : Int64)) hx hb dX5_compareDistance_100 (by decide) ?_
  refine W.lcmp hx hb dX5_compareDistance_101 ?_
  refine lv_if_gt (tgt := 122) hx hb dX5_compareDistance_102 (by decide) (fun ca => ?_) (fun ca => ?_)
  · have ca := (lg_cmp_gt _ _).mp ca
    refine lv_lload hx hb dX5_compareDistance_122 (lv_at hl 0 rfl) ?_
    refine lv_lload hx hb dX5_compareDistance_124 (lv_at hl 1 rfl) ?_
    refine W.lcmp hx hb dX5_compareDistance_126 ?_
    refine lv_if_lt (tgt := 161) hx hb dX5_compareDistance_127 (by decide) (fun cb => ?_) (fun cb => ?_)
    · have cb := (lg_cmp_lt _ _).mp cb
      refine lv_lload hx hb dX5_compareDistance_161 (lv_at hl 6 rfl) ?_
      refine lv_lload hx hb dX5_compareDistance_163 (lv_at hl 3 rfl) ?_
      refine lv_lmul hx hb dX5_compareDistance_165 ?_
      refine lv_lload hx hb dX5_compareDistance_166 (lv_at hl 5 rfl) ?_
      refine lv_lload hx hb dX5_compareDistance_168 (lv_at hl 4 rfl) ?_
      refine lv_lmul hx hb dX5_compareDistance_170 ?_
      refine lv_lsub hx hb dX5_compareDistance_171 ?_
      refine lv_lstore (lv' := [(20, .long (((((R1.1 ((i + 1) % R1.2.2)) - (R1.1 i)).toInt64) * ((y - (R1.2.1 i)).toInt64)) - ((((R1.2.1 ((i + 1) % R1.2.2)) - (R1.2.1 i)).toInt64) * ((x - (R1.1 i)).toInt64)))), (18, .long ((((x - (R1.1 i)).toInt64) * (((R1.1 ((i + 1) % R1.2.2)) - (R1.1 i)).toInt64)) + (((y - (R1.2.1 i)).toInt64) * (((R1.2.1 ((i + 1) % R1.2.2)) - (R1.2.1 i)).toInt64)))), (16, .long (((((R1.1 ((i + 1) % R1.2.2)) - (R1.1 i)).toInt64) * (((R1.1 ((i + 1) % R1.2.2)) - (R1.1 i)).toInt64)) + ((((R1.2.1 ((i + 1) % R1.2.2)) - (R1.2.1 i)).toInt64) * (((R1.2.1 ((i + 1) % R1.2.2)) - (R1.2.1 i)).toInt64)))), (14, .long (d.toInt64 * d.toInt64)), (12, .long ((y - (R1.2.1 i)).toInt64)), (10, .long ((x - (R1.1 i)).toInt64)), (8, .long (((R1.2.1 ((i + 1) % R1.2.2)) - (R1.2.1 i)).toInt64)), (6, .long (((R1.1 ((i + 1) % R1.2.2)) - (R1.1 i)).toInt64)), (5, .int (nI ((i + 1) % R1.2.2))), (0, .ref r1), (1, .int (nI i)), (2, .int x), (3, .int y), (4, .int d)]) hx hb dX5_compareDistance_172 hl (by decide) rfl (fun ls hl => ?_)
      refine lv_lload hx hb dX5_compareDistance_174 (lv_at hl 0 rfl) ?_
      refine lv_lload hx hb dX5_compareDistance_176 (lv_at hl 0 rfl) ?_
      refine lv_lmul hx hb dX5_compareDistance_178 ?_
      refine lv_lload hx hb dX5_compareDistance_179 (lv_at hl 3 rfl) ?_
      refine lv_lload hx hb dX5_compareDistance_181 (lv_at hl 2 rfl) ?_
      refine lv_lmul hx hb dX5_compareDistance_183 ?_
      refine mp_calli (va_runS (As := [.long ((((((R1.1 ((i + 1) % R1.2.2)) - (R1.1 i)).toInt64) * ((y - (R1.2.1 i)).toInt64)) - ((((R1.2.1 ((i + 1) % R1.2.2)) - (R1.2.1 i)).toInt64) * ((x - (R1.1 i)).toInt64))) * (((((R1.1 ((i + 1) % R1.2.2)) - (R1.1 i)).toInt64) * ((y - (R1.2.1 i)).toInt64)) - ((((R1.2.1 ((i + 1) % R1.2.2)) - (R1.2.1 i)).toInt64) * ((x - (R1.1 i)).toInt64)))), .long ((d.toInt64 * d.toInt64) * (((((R1.1 ((i + 1) % R1.2.2)) - (R1.1 i)).toInt64) * (((R1.1 ((i + 1) % R1.2.2)) - (R1.1 i)).toInt64)) + ((((R1.2.1 ((i + 1) % R1.2.2)) - (R1.2.1 i)).toInt64) * (((R1.2.1 ((i + 1) % R1.2.2)) - (R1.2.1 i)).toInt64))))]) (rest := []) ⟨hx, hb, hml, hown, hts⟩ (c_J13_compare_74951 l X G A M ((((((R1.1 ((i + 1) % R1.2.2)) - (R1.1 i)).toInt64) * ((y - (R1.2.1 i)).toInt64)) - ((((R1.2.1 ((i + 1) % R1.2.2)) - (R1.2.1 i)).toInt64) * ((x - (R1.1 i)).toInt64))) * (((((R1.1 ((i + 1) % R1.2.2)) - (R1.1 i)).toInt64) * ((y - (R1.2.1 i)).toInt64)) - ((((R1.2.1 ((i + 1) % R1.2.2)) - (R1.2.1 i)).toInt64) * ((x - (R1.1 i)).toInt64)))) ((d.toInt64 * d.toInt64) * (((((R1.1 ((i + 1) % R1.2.2)) - (R1.1 i)).toInt64) * (((R1.1 ((i + 1) % R1.2.2)) - (R1.1 i)).toInt64)) + ((((R1.2.1 ((i + 1) % R1.2.2)) - (R1.2.1 i)).toInt64) * (((R1.2.1 ((i + 1) % R1.2.2)) - (R1.2.1 i)).toInt64))))) (va_cwS 2 hts gX5_compareDistance_J13_compare_74951 rfl rfl rfl (by decide +kernel) ⟨Nat.le_of_ble_eq_true rfl, Nat.le_of_ble_eq_true rfl⟩) (mp_preS hC hS hM) rfl rfl hl.1 rfl (lv_room (Nat.le_of_ble_eq_true rfl)) dX5_compareDistance_184 ⟨Nat.le_of_ble_eq_true rfl, Nat.le_of_ble_eq_true rfl⟩) hS (fun H locs hM hS => ?_)
      exact mp_iret hx hb hr hlocks (Nat.le_of_ble_eq_true rfl) (Nat.le_of_ble_eq_true rfl) hM hS dX5_compareDistance_187 (⟨by rw [cd_f]; simp only [if_pos ca, if_pos cb], rfl⟩)
    · have cb := fun q => cb ((lg_cmp_lt _ _).mpr q)
      refine lv_lload hx hb dX5_compareDistance_130 (lv_at hl 4 rfl) ?_
      refine lv_lload hx hb dX5_compareDistance_132 (lv_at hl 6 rfl) ?_
      refine lv_lsub hx hb dX5_compareDistance_134 ?_
      refine lv_lstore (lv' := [(20, .long (((x - (R1.1 i)).toInt64) - (((R1.1 ((i + 1) % R1.2.2)) - (R1.1 i)).toInt64))), (18, .long ((((x - (R1.1 i)).toInt64) * (((R1.1 ((i + 1) % R1.2.2)) - (R1.1 i)).toInt64)) + (((y - (R1.2.1 i)).toInt64) * (((R1.2.1 ((i + 1) % R1.2.2)) - (R1.2.1 i)).toInt64)))), (16, .long (((((R1.1 ((i + 1) % R1.2.2)) - (R1.1 i)).toInt64) * (((R1.1 ((i + 1) % R1.2.2)) - (R1.1 i)).toInt64)) + ((((R1.2.1 ((i + 1) % R1.2.2)) - (R1.2.1 i)).toInt64) * (((R1.2.1 ((i + 1) % R1.2.2)) - (R1.2.1 i)).toInt64)))), (14, .long (d.toInt64 * d.toInt64)), (12, .long ((y - (R1.2.1 i)).toInt64)), (10, .long ((x - (R1.1 i)).toInt64)), (8, .long (((R1.2.1 ((i + 1) % R1.2.2)) - (R1.2.1 i)).toInt64)), (6, .long (((R1.1 ((i + 1) % R1.2.2)) - (R1.1 i)).toInt64)), (5, .int (nI ((i + 1) % R1.2.2))), (0, .ref r1), (1, .int (nI i)), (2, .int x), (3, .int y), (4, .int d)]) hx hb dX5_compareDistance_135 hl (by decide) rfl (fun ls hl => ?_)
      refine lv_lload hx hb dX5_compareDistance_137 (lv_at hl 4 rfl) ?_
      refine lv_lload hx hb dX5_compareDistance_139 (lv_at hl 6 rfl) ?_
      refine lv_lsub hx hb dX5_compareDistance_141 ?_
      refine lv_lstore (lv' := [(22, .long (((y - (R1.2.1 i)).toInt64) - (((R1.2.1 ((i + 1) % R1.2.2)) - (R1.2.1 i)).toInt64))), (20, .long (((x - (R1.1 i)).toInt64) - (((R1.1 ((i + 1) % R1.2.2)) - (R1.1 i)).toInt64))), (18, .long ((((x - (R1.1 i)).toInt64) * (((R1.1 ((i + 1) % R1.2.2)) - (R1.1 i)).toInt64)) + (((y - (R1.2.1 i)).toInt64) * (((R1.2.1 ((i + 1) % R1.2.2)) - (R1.2.1 i)).toInt64)))), (16, .long (((((R1.1 ((i + 1) % R1.2.2)) - (R1.1 i)).toInt64) * (((R1.1 ((i + 1) % R1.2.2)) - (R1.1 i)).toInt64)) + ((((R1.2.1 ((i + 1) % R1.2.2)) - (R1.2.1 i)).toInt64) * (((R1.2.1 ((i + 1) % R1.2.2)) - (R1.2.1 i)).toInt64)))), (14, .long (d.toInt64 * d.toInt64)), (12, .long ((y - (R1.2.1 i)).toInt64)), (10, .long ((x - (R1.1 i)).toInt64)), (8, .long (((R1.2.1 ((i + 1) % R1.2.2)) - (R1.2.1 i)).toInt64)), (6, .long (((R1.1 ((i + 1) % R1.2.2)) - (R1.1 i)).toInt64)), (5, .int (nI ((i + 1) % R1.2.2))), (0, .ref r1), (1, .int (nI i)), (2, .int x), (3, .int y), (4, .int d)]) hx hb dX5_compareDistance_142 hl (by decide) rfl (fun ls hl => ?_)
      refine lv_lload hx hb dX5_compareDistance_144 (lv_at hl 1 rfl) ?_
      refine lv_lload hx hb dX5_compareDistance_146 (lv_at hl 1 rfl) ?_
      refine lv_lmul hx hb dX5_compareDistance_148 ?_
      refine lv_lload hx hb dX5_compareDistance_149 (lv_at hl 0 rfl) ?_
      refine lv_lload hx hb dX5_compareDistance_151 (lv_at hl 0 rfl) ?_
      refine lv_lmul hx hb dX5_compareDistance_153 ?_
      refine lv_ladd hx hb dX5_compareDistance_154 ?_
      refine lv_lload hx hb dX5_compareDistance_155 (lv_at hl 4 rfl) ?_
      refine mp_calli (va_runS (As := [.long (((((x - (R1.1 i)).toInt64) - (((R1.1 ((i + 1) % R1.2.2)) - (R1.1 i)).toInt64)) * (((x - (R1.1 i)).toInt64) - (((R1.1 ((i + 1) % R1.2.2)) - (R1.1 i)).toInt64))) + ((((y - (R1.2.1 i)).toInt64) - (((R1.2.1 ((i + 1) % R1.2.2)) - (R1.2.1 i)).toInt64)) * (((y - (R1.2.1 i)).toInt64) - (((R1.2.1 ((i + 1) % R1.2.2)) - (R1.2.1 i)).toInt64)))), .long (d.toInt64 * d.toInt64)]) (rest := []) ⟨hx, hb, hml, hown, hts⟩ (c_J13_compare_74951 l X G A M (((((x - (R1.1 i)).toInt64) - (((R1.1 ((i + 1) % R1.2.2)) - (R1.1 i)).toInt64)) * (((x - (R1.1 i)).toInt64) - (((R1.1 ((i + 1) % R1.2.2)) - (R1.1 i)).toInt64))) + ((((y - (R1.2.1 i)).toInt64) - (((R1.2.1 ((i + 1) % R1.2.2)) - (R1.2.1 i)).toInt64)) * (((y - (R1.2.1 i)).toInt64) - (((R1.2.1 ((i + 1) % R1.2.2)) - (R1.2.1 i)).toInt64)))) (d.toInt64 * d.toInt64)) (va_cwS 2 hts gX5_compareDistance_J13_compare_74951 rfl rfl rfl (by decide +kernel) ⟨Nat.le_of_ble_eq_true rfl, Nat.le_of_ble_eq_true rfl⟩) (mp_preS hC hS hM) rfl rfl hl.1 rfl (lv_room (Nat.le_of_ble_eq_true rfl)) dX5_compareDistance_157 ⟨Nat.le_of_ble_eq_true rfl, Nat.le_of_ble_eq_true rfl⟩) hS (fun H locs hM hS => ?_)
      exact mp_iret hx hb hr hlocks (Nat.le_of_ble_eq_true rfl) (Nat.le_of_ble_eq_true rfl) hM hS dX5_compareDistance_160 (⟨by rw [cd_f]; simp only [if_pos ca, if_neg cb], rfl⟩)
  · have ca := fun q => ca ((lg_cmp_gt _ _).mpr q)
    refine lv_lload hx hb dX5_compareDistance_105 (lv_at hl 4 rfl) ?_
    refine lv_lload hx hb dX5_compareDistance_107 (lv_at hl 4 rfl) ?_
    refine lv_lmul hx hb dX5_compareDistance_109 ?_
    refine lv_lload hx hb dX5_compareDistance_110 (lv_at hl 3 rfl) ?_
    refine lv_lload hx hb dX5_compareDistance_112 (lv_at hl 3 rfl) ?_
    refine lv_lmul hx hb dX5_compareDistance_114 ?_
    refine lv_ladd hx hb dX5_compareDistance_115 ?_
    refine lv_lload hx hb dX5_compareDistance_116 (lv_at hl 2 rfl) ?_
    refine mp_calli (va_runS (As := [.long ((((x - (R1.1 i)).toInt64) * ((x - (R1.1 i)).toInt64)) + (((y - (R1.2.1 i)).toInt64) * ((y - (R1.2.1 i)).toInt64))), .long (d.toInt64 * d.toInt64)]) (rest := []) ⟨hx, hb, hml, hown, hts⟩ (c_J13_compare_74951 l X G A M ((((x - (R1.1 i)).toInt64) * ((x - (R1.1 i)).toInt64)) + (((y - (R1.2.1 i)).toInt64) * ((y - (R1.2.1 i)).toInt64))) (d.toInt64 * d.toInt64)) (va_cwS 2 hts gX5_compareDistance_J13_compare_74951 rfl rfl rfl (by decide +kernel) ⟨Nat.le_of_ble_eq_true rfl, Nat.le_of_ble_eq_true rfl⟩) (mp_preS hC hS hM) rfl rfl hl.1 rfl (lv_room (Nat.le_of_ble_eq_true rfl)) dX5_compareDistance_118 ⟨Nat.le_of_ble_eq_true rfl, Nat.le_of_ble_eq_true rfl⟩) hS (fun H locs hM hS => ?_)
    exact mp_iret hx hb hr hlocks (Nat.le_of_ble_eq_true rfl) (Nat.le_of_ble_eq_true rfl) hM hS dX5_compareDistance_121 (⟨by rw [cd_f]; simp only [if_neg ca], rfl⟩)
abbrev rmX5_hasSideWithinOfCorner : Room := { frames := 2, cells := 0, slots := 0, locals := 66 }
set_option maxHeartbeats 4000000 in
set_option maxRecDepth 100000 in
theorem c_X5_hasSideWithinOfCorner (l : Launch) (X : mp_X) (G : mp_G) (A : Nat → Prop) (M : mp_M) (r1 : Nat) (R1 : rg_R) (h1 : RingAt G M r1 R1) (hs1 : R1.2.2 ≤ 8) (r2 : Nat) (R2 : rg_R) (h2 : RingAt G M r2 R2) (hs2 : R2.2.2 ≤ 8) (d : Int32) : mp_Met l X G A yX5_hasSideWithinOfCorner wsX5_hasSideWithinOfCorner rmX5_hasSideWithinOfCorner ([.ref r1, .ref r2, .int d] : List Value) M (fun v M1 => v = some (.int (bI (pB (cdW R1 R2 d)))) ∧ M1 = M) 0 0 := by
  refine mp_ofW (cc := cX5_hasSideWithinOfCorner) (maxL := 5) (ret := (some .boolean)) (by decide) rfl (Nat.le_of_ble_eq_true rfl) ?_
  intro p e s m below meth c ls hx hb hr hts hown hlocks hnm hml hC hM hS hl
  have hl : lv_has ls 5 [(0, .ref r1), (1, .ref r2), (2, .int d)] := hl
  have hown : s.vm.findClass RX5 = some m.cls := hown
  have hin_wsX50 : ∀ w ∈ wsX50, w ∈ wsX5_hasSideWithinOfCorner := fun _ h => List.mem_cons_of_mem _ (List.mem_append_right _ h)
  have fl_18 := hts (.fieldLink RX5 18 "PlanningBench$Ring" "size" "I") (List.mem_of_getElem? (i := 1) rfl)
  have fl_11 := hts (.fieldLink RX5 11 "PlanningBench$Ring" "xs" "[I") (List.mem_of_getElem? (i := 2) rfl)
  have fl_15 := hts (.fieldLink RX5 15 "PlanningBench$Ring" "ys" "[I") (List.mem_of_getElem? (i := 3) rfl)
  obtain ⟨k1, kx1, ky1, ax1, ay1, hR1, hX1, hY1⟩ := id h1
  obtain ⟨k2, kx2, ky2, ax2, ay2, hR2, hX2, hY2⟩ := id h2
  refine lv_iconst (v := (0 : Int32)) hx hb dX5_hasSideWithinOfCorner_0 (by decide) ?_
  refine lv_istore_n (lv' := [(3, .int (0 : Int32)), (0, .ref r1), (1, .ref r2), (2, .int d)]) hx hb dX5_hasSideWithinOfCorner_1 rfl hl (by decide) rfl (fun ls hl => ?_)
  have LP2 : ∀ (kk : Nat) (k : Nat) (ls : Array Slot) (H : Heap) (locs : List Loc), R2.2.2 - k < kk → k ≤ R2.2.2 → (∀ u, u < k → ¬ ∃ i, i < R1.2.2 ∧ cd_f R1 i (R2.1 u) (R2.2.1 u) d ≤ 0) → mp_P G.1 A M H → va_S A s.heap H locs → lv_has ls 5 [(0, .ref r1), (1, .ref r2), (2, .int d), (3, .int (nI k))] → W p l e rmX5_hasSideWithinOfCorner s m ([.ref r1, .ref r2, .int d] : List Value).toArray below meth c H locs 0 0 (MQ below (mp_Q G.1 A (fun v M1 => v = some (.int (bI (pB (cdW R1 R2 d)))) ∧ M1 = M)) ([.ref r1, .ref r2, .int d] : List Value).toArray s 0 0 A) (F0 m 2 ls []) := by
    intro kk
    induction kk with
    | zero => intro k ls H locs hk; exact absurd hk (Nat.not_lt_zero _)
    | succ kk ih =>
      intro k ls H locs hk hk9 hinv hM hS hl
      refine lv_iload_n hx hb dX5_hasSideWithinOfCorner_2 rfl (lv_at hl 3 rfl) ?_
      refine lv_aload_n hx hb dX5_hasSideWithinOfCorner_3 rfl (lv_at hl 1 rfl) ?_
      refine va_get (D := G.1) (C := RX5) (T := TX5) (N := 3) (ci := 6) hx hb hts hin_wsX50 hown hC.1 (hM.one hR2) 0 rfl rfl 2 (by decide) fl_18 (fun _ z => z) rfl dX5_hasSideWithinOfCorner_4 ?_
      refine lv_icmp_ge (tgt := 58) hx hb dX5_hasSideWithinOfCorner_7 (by decide) (fun c1 => ?_) (fun c1 => ?_)
      · have c1 := nn_le (a := R2.2.2) (b := k) (by omega) (by omega) c1
        refine lv_iconst (v := (0 : Int32)) hx hb dX5_hasSideWithinOfCorner_58 (by decide) ?_
        exact mp_zret hx hb hr hlocks (Nat.le_of_ble_eq_true rfl) (Nat.le_of_ble_eq_true rfl) hM hS dX5_hasSideWithinOfCorner_59 (by first | rfl | exact bI_nar _) (⟨b0 (fun ⟨u, hu, z⟩ => hinv u (by omega) z), rfl⟩)
      · have c1 := nn_nle (a := R2.2.2) (b := k) (by omega) (by omega) c1
        refine lv_iconst (v := (0 : Int32)) hx hb dX5_hasSideWithinOfCorner_10 (by decide) ?_
        refine lv_istore (lv' := [(4, .int (0 : Int32)), (0, .ref r1), (1, .ref r2), (2, .int d), (3, .int (nI k))]) hx hb dX5_hasSideWithinOfCorner_11 hl (by decide) rfl (fun ls hl => ?_)
        have LP13 : ∀ (kk : Nat) (i : Nat) (ls : Array Slot) (H : Heap) (locs : List Loc), R1.2.2 - i < kk → i ≤ R1.2.2 → (∀ u, u < i → ¬ cd_f R1 u (R2.1 k) (R2.2.1 k) d ≤ 0) → mp_P G.1 A M H → va_S A s.heap H locs → lv_has ls 5 [(0, .ref r1), (1, .ref r2), (2, .int d), (3, .int (nI k)), (4, .int (nI i))] → W p l e rmX5_hasSideWithinOfCorner s m ([.ref r1, .ref r2, .int d] : List Value).toArray below meth c H locs 0 0 (MQ below (mp_Q G.1 A (fun v M1 => v = some (.int (bI (pB (cdW R1 R2 d)))) ∧ M1 = M)) ([.ref r1, .ref r2, .int d] : List Value).toArray s 0 0 A) (F0 m 13 ls []) := by
          intro kk
          induction kk with
          | zero => intro i ls H locs hk; exact absurd hk (Nat.not_lt_zero _)
          | succ kk ih2 =>
            intro i ls H locs hk hi hinv2 hM hS hl
            refine lv_iload hx hb dX5_hasSideWithinOfCorner_13 (lv_at hl 4 rfl) ?_
            refine lv_aload_n hx hb dX5_hasSideWithinOfCorner_15 rfl (lv_at hl 0 rfl) ?_
            refine va_get (D := G.1) (C := RX5) (T := TX5) (N := 3) (ci := 6) hx hb hts hin_wsX50 hown hC.1 (hM.one hR1) 0 rfl rfl 2 (by decide) fl_18 (fun _ z => z) rfl dX5_hasSideWithinOfCorner_16 ?_
            refine lv_icmp_ge (tgt := 52) hx hb dX5_hasSideWithinOfCorner_19 (by decide) (fun c2_ => ?_) (fun c2_ => ?_)
            · have c2_ := nn_le (a := R1.2.2) (b := i) (by omega) (by omega) c2_
              refine lv_iinc (v := nI (k + 1)) (lv' := [(3, .int (nI (k + 1))), (0, .ref r1), (1, .ref r2), (2, .int d), (4, .int (nI i))]) hx hb dX5_hasSideWithinOfCorner_52 hl (k := 3) rfl (nI_1 k) (by decide) rfl (fun ls hl => ?_)
              refine lv_goto (tgt := 2) hx hb dX5_hasSideWithinOfCorner_55 (by decide) ?_
              exact ih (k + 1) ls _ _ (by omega) (by omega) (fun u hu => (Nat.lt_succ_iff_lt_or_eq.mp hu).elim (hinv u) (fun z => by rw [z]; exact (fun ⟨j, hj, y⟩ => hinv2 j (by omega) y))) hM hS (lv_sub hl [1, 2, 3, 0] rfl)
            · have c2_ := nn_nle (a := R1.2.2) (b := i) (by omega) (by omega) c2_
              refine lv_aload_n hx hb dX5_hasSideWithinOfCorner_22 rfl (lv_at hl 0 rfl) ?_
              refine lv_iload hx hb dX5_hasSideWithinOfCorner_23 (lv_at hl 4 rfl) ?_
              refine lv_aload_n hx hb dX5_hasSideWithinOfCorner_25 rfl (lv_at hl 1 rfl) ?_
              refine va_get (D := G.1) (C := RX5) (T := TX5) (N := 3) (ci := 6) hx hb hts hin_wsX50 hown hC.1 (hM.one hR2) 0 rfl rfl 0 (by decide) fl_11 (fun _ z => z) rfl dX5_hasSideWithinOfCorner_26 ?_
              refine lv_iload_n hx hb dX5_hasSideWithinOfCorner_29 rfl (lv_at hl 3 rfl) ?_
              refine ca_iald hx hb hC hM hX2 (j := k) (by omega) (by decide) dX5_hasSideWithinOfCorner_30 ?_
              refine lv_aload_n hx hb dX5_hasSideWithinOfCorner_31 rfl (lv_at hl 1 rfl) ?_
              refine va_get (D := G.1) (C := RX5) (T := TX5) (N := 3) (ci := 6) hx hb hts hin_wsX50 hown hC.1 (hM.one hR2) 0 rfl rfl 1 (by decide) fl_15 (fun _ z => z) rfl dX5_hasSideWithinOfCorner_32 ?_
              refine lv_iload_n hx hb dX5_hasSideWithinOfCorner_35 rfl (lv_at hl 3 rfl) ?_
              refine ca_iald hx hb hC hM hY2 (j := k) (by omega) (by decide) dX5_hasSideWithinOfCorner_36 ?_
              refine lv_iload_n hx hb dX5_hasSideWithinOfCorner_37 rfl (lv_at hl 2 rfl) ?_
              refine mp_calli (va_runV (As := [.int (nI i), .int (R2.1 k), .int (R2.2.1 k), .int d]) (rest := []) ⟨hx, hb, hml, hown, hts⟩ (c_X5_compareDistance l X G A M r1 R1 h1 hs1 i (by omega) (R2.1 k) (R2.2.1 k) d) (cwV 4 hts gX5_hasSideWithinOfCorner_X5_compareDistance rfl rfl rfl (by decide +kernel) ⟨Nat.le_of_ble_eq_true rfl, Nat.le_of_ble_eq_true rfl⟩) (mp_preV hC hS hM (mp_recv hC.1 hM hR1 (r := (RX5, TX5, 3)) rfl)) rfl rfl hl.1 rfl (lv_room (Nat.le_of_ble_eq_true rfl)) dX5_hasSideWithinOfCorner_38 ⟨Nat.le_of_ble_eq_true rfl, Nat.le_of_ble_eq_true rfl⟩) hS (fun H locs hM hS => ?_)
              refine lv_if_gt (tgt := 46) hx hb dX5_hasSideWithinOfCorner_41 (by decide) (fun c3 => ?_) (fun c3 => ?_)
              · have c3 := c3
                refine lv_iinc (v := nI (i + 1)) (lv' := [(4, .int (nI (i + 1))), (0, .ref r1), (1, .ref r2), (2, .int d), (3, .int (nI k))]) hx hb dX5_hasSideWithinOfCorner_46 hl (k := 4) rfl (nI_1 i) (by decide) rfl (fun ls hl => ?_)
                refine lv_goto (tgt := 13) hx hb dX5_hasSideWithinOfCorner_49 (by decide) ?_
                exact ih2 (i + 1) ls _ _ (by omega) (by omega) (fun u hu => (Nat.lt_succ_iff_lt_or_eq.mp hu).elim (hinv2 u) (fun z => by rw [z]; exact (i_nle.mpr c3))) hM hS (lv_sub hl [1, 2, 3, 4, 0] rfl)
              · have c3 := c3
                refine lv_iconst (v := (1 : Int32)) hx hb dX5_hasSideWithinOfCorner_44 (by decide) ?_
                exact mp_zret hx hb hr hlocks (Nat.le_of_ble_eq_true rfl) (Nat.le_of_ble_eq_true rfl) hM hS dX5_hasSideWithinOfCorner_45 (by first | rfl | exact bI_nar _) (⟨b1 ⟨k, c1, i, c2_, i_nlt.mp c3⟩, rfl⟩)
        exact LP13 _ 0 ls _ _ (Nat.lt_succ_self _) (Nat.zero_le _) (fun u hu => absurd hu (Nat.not_lt_zero u)) hM hS (lv_sub hl [1, 2, 3, 4, 0] rfl)
  exact LP2 _ 0 ls _ _ (Nat.lt_succ_self _) (Nat.zero_le _) (fun u hu => absurd hu (Nat.not_lt_zero u)) hM hS (lv_sub hl [1, 2, 3, 0] rfl)
abbrev rmX5_isWithinOf : Room := { frames := 3, cells := 0, slots := 0, locals := 90 }
set_option maxHeartbeats 4000000 in
set_option maxRecDepth 100000 in
theorem c_X5_isWithinOf (l : Launch) (X : mp_X) (G : mp_G) (A : Nat → Prop) (M : mp_M) (r1 : Nat) (R1 : rg_R) (h1 : RingAt G M r1 R1) (hs1 : R1.2.2 ≤ 8) (r2 : Nat) (R2 : rg_R) (h2 : RingAt G M r2 R2) (hs2 : R2.2.2 ≤ 8) (d : Int32) : mp_Met l X G A yX5_isWithinOf wsX5_isWithinOf rmX5_isWithinOf ([.ref r1, .ref r2, .int d] : List Value) M (fun v M1 => v = some (.int (bI (pB (cdW R1 R2 d ∨ cdW R2 R1 d)))) ∧ M1 = M) 0 0 := by
  refine mp_ofW (cc := cX5_isWithinOf) (maxL := 3) (ret := (some .boolean)) (by decide) rfl (Nat.le_of_ble_eq_true rfl) ?_
  intro p e s m below meth c ls hx hb hr hts hown hlocks hnm hml hC hM hS hl
  have hl : lv_has ls 3 [(0, .ref r1), (1, .ref r2), (2, .int d)] := hl
  have hown : s.vm.findClass RX5 = some m.cls := hown
  obtain ⟨k1, kx1, ky1, ax1, ay1, hR1, hX1, hY1⟩ := id h1
  obtain ⟨k2, kx2, ky2, ax2, ay2, hR2, hX2, hY2⟩ := id h2
  refine lv_aload_n hx hb dX5_isWithinOf_0 rfl (lv_at hl 0 rfl) ?_
  refine lv_aload_n hx hb dX5_isWithinOf_1 rfl (lv_at hl 1 rfl) ?_
  refine lv_iload_n hx hb dX5_isWithinOf_2 rfl (lv_at hl 2 rfl) ?_
  refine mp_calli (va_runV (As := [.ref r2, .int d]) (rest := []) ⟨hx, hb, hml, hown, hts⟩ (c_X5_hasSideWithinOfCorner l X G A M r1 R1 h1 hs1 r2 R2 h2 hs2 d) (cwV 2 hts gX5_isWithinOf_X5_hasSideWithinOfCorner rfl rfl rfl (by decide +kernel) ⟨Nat.le_of_ble_eq_true rfl, Nat.le_of_ble_eq_true rfl⟩) (mp_preV hC hS hM (mp_recv hC.1 hM hR1 (r := (RX5, TX5, 3)) rfl)) rfl rfl hl.1 rfl (lv_room (Nat.le_of_ble_eq_true rfl)) dX5_isWithinOf_3 ⟨Nat.le_of_ble_eq_true rfl, Nat.le_of_ble_eq_true rfl⟩) hS (fun H locs hM hS => ?_)
  refine lv_if_ne (tgt := 18) hx hb dX5_isWithinOf_6 (by decide) (fun c1 => ?_) (fun c1 => ?_)
  · have c1 : (pB (cdW R1 R2 d)) = true := bI_1.mp c1
    refine lv_iconst (v := (1 : Int32)) hx hb dX5_isWithinOf_18 (by decide) ?_
    refine lv_goto (tgt := 23) hx hb dX5_isWithinOf_19 (by decide) ?_
    exact mp_zret hx hb hr hlocks (Nat.le_of_ble_eq_true rfl) (Nat.le_of_ble_eq_true rfl) hM hS dX5_isWithinOf_23 (by first | rfl | exact bI_nar _) (⟨by first | exact b1 (Or.inl (pB_iff.mp c1)) | exact b1 (Or.inr (pB_iff.mp c3)) | exact b0 (fun q => q.elim (pB_not.mp c1) (pB_not.mp c3)), rfl⟩)
  · have c1 : (pB (cdW R1 R2 d)) = false := bI_0.mp c1
    refine lv_aload_n hx hb dX5_isWithinOf_9 rfl (lv_at hl 1 rfl) ?_
    refine lv_aload_n hx hb dX5_isWithinOf_10 rfl (lv_at hl 0 rfl) ?_
    refine lv_iload_n hx hb dX5_isWithinOf_11 rfl (lv_at hl 2 rfl) ?_
    refine mp_calli (va_runV (As := [.ref r1, .int d]) (rest := []) ⟨hx, hb, hml, hown, hts⟩ (c_X5_hasSideWithinOfCorner l X G A M r2 R2 h2 hs2 r1 R1 h1 hs1 d) (cwV 2 hts gX5_isWithinOf_X5_hasSideWithinOfCorner rfl rfl rfl (by decide +kernel) ⟨Nat.le_of_ble_eq_true rfl, Nat.le_of_ble_eq_true rfl⟩) (mp_preV hC hS hM (mp_recv hC.1 hM hR2 (r := (RX5, TX5, 3)) rfl)) rfl rfl hl.1 rfl (lv_room (Nat.le_of_ble_eq_true rfl)) dX5_isWithinOf_12 ⟨Nat.le_of_ble_eq_true rfl, Nat.le_of_ble_eq_true rfl⟩) hS (fun H locs hM hS => ?_)
    refine lv_if_eq (tgt := 22) hx hb dX5_isWithinOf_15 (by decide) (fun c3 => ?_) (fun c3 => ?_)
    · have c3 : (pB (cdW R2 R1 d)) = false := bI_0.mp c3
      refine lv_iconst (v := (0 : Int32)) hx hb dX5_isWithinOf_22 (by decide) ?_
      exact mp_zret hx hb hr hlocks (Nat.le_of_ble_eq_true rfl) (Nat.le_of_ble_eq_true rfl) hM hS dX5_isWithinOf_23 (by first | rfl | exact bI_nar _) (⟨by first | exact b1 (Or.inl (pB_iff.mp c1)) | exact b1 (Or.inr (pB_iff.mp c3)) | exact b0 (fun q => q.elim (pB_not.mp c1) (pB_not.mp c3)), rfl⟩)
    · have c3 : (pB (cdW R2 R1 d)) = true := bI_1.mp c3
      refine lv_iconst (v := (1 : Int32)) hx hb dX5_isWithinOf_18 (by decide) ?_
      refine lv_goto (tgt := 23) hx hb dX5_isWithinOf_19 (by decide) ?_
      exact mp_zret hx hb hr hlocks (Nat.le_of_ble_eq_true rfl) (Nat.le_of_ble_eq_true rfl) hM hS dX5_isWithinOf_23 (by first | rfl | exact bI_nar _) (⟨by first | exact b1 (Or.inl (pB_iff.mp c1)) | exact b1 (Or.inr (pB_iff.mp c3)) | exact b0 (fun q => q.elim (pB_not.mp c1) (pB_not.mp c3)), rfl⟩)
abbrev rmX5_hasInside : Room := { frames := 2, cells := 0, slots := 0, locals := 45 }
set_option maxHeartbeats 4000000 in
set_option maxRecDepth 100000 in
theorem c_X5_hasInside (l : Launch) (X : mp_X) (G : mp_G) (A : Nat → Prop) (M : mp_M) (r1 : Nat) (R1 : rg_R) (h1 : RingAt G M r1 R1) (hs1 : R1.2.2 ≤ 8) (x y : Int32) : mp_Met l X G A yX5_hasInside wsX5_hasInside rmX5_hasInside ([.ref r1, .int x, .int y] : List Value) M (fun v M1 => v = some (.int (bI (pB (rg_ins R1 x y)))) ∧ M1 = M) 0 0 := by
  refine mp_ofW (cc := cX5_hasInside) (maxL := 4) (ret := (some .boolean)) (by decide) rfl (Nat.le_of_ble_eq_true rfl) ?_
  intro p e s m below meth c ls hx hb hr hts hown hlocks hnm hml hC hM hS hl
  have hl : lv_has ls 4 [(0, .ref r1), (1, .int x), (2, .int y)] := hl
  have hown : s.vm.findClass RX5 = some m.cls := hown
  have hin_wsX50 : ∀ w ∈ wsX50, w ∈ wsX5_hasInside := fun _ h => List.mem_cons_of_mem _ (List.mem_append_right _ h)
  have fl_18 := hts (.fieldLink RX5 18 "PlanningBench$Ring" "size" "I") (List.mem_of_getElem? (i := 1) rfl)
  obtain ⟨k1, kx1, ky1, ax1, ay1, hR1, hX1, hY1⟩ := id h1
  refine lv_iconst (v := (0 : Int32)) hx hb dX5_hasInside_0 (by decide) ?_
  refine lv_istore_n (lv' := [(3, .int (0 : Int32)), (0, .ref r1), (1, .int x), (2, .int y)]) hx hb dX5_hasInside_1 rfl hl (by decide) rfl (fun ls hl => ?_)
  have LP2 : ∀ (kk : Nat) (i : Nat) (ls : Array Slot) (H : Heap) (locs : List Loc), R1.2.2 - i < kk → i ≤ R1.2.2 → (∀ u, u < i → ¬ rg_side R1 u x y < 0) → mp_P G.1 A M H → va_S A s.heap H locs → lv_has ls 4 [(0, .ref r1), (1, .int x), (2, .int y), (3, .int (nI i))] → W p l e rmX5_hasInside s m ([.ref r1, .int x, .int y] : List Value).toArray below meth c H locs 0 0 (MQ below (mp_Q G.1 A (fun v M1 => v = some (.int (bI (pB (rg_ins R1 x y)))) ∧ M1 = M)) ([.ref r1, .int x, .int y] : List Value).toArray s 0 0 A) (F0 m 2 ls []) := by
    intro kk
    induction kk with
    | zero => intro i ls H locs hk; exact absurd hk (Nat.not_lt_zero _)
    | succ kk ih =>
      intro i ls H locs hk hi hinv hM hS hl
      refine lv_iload_n hx hb dX5_hasInside_2 rfl (lv_at hl 3 rfl) ?_
      refine lv_aload_n hx hb dX5_hasInside_3 rfl (lv_at hl 0 rfl) ?_
      refine va_get (D := G.1) (C := RX5) (T := TX5) (N := 3) (ci := 6) hx hb hts hin_wsX50 hown hC.1 (hM.one hR1) 0 rfl rfl 2 (by decide) fl_18 (fun _ z => z) rfl dX5_hasInside_4 ?_
      refine lv_icmp_ge (tgt := 28) hx hb dX5_hasInside_7 (by decide) (fun c1 => ?_) (fun c1 => ?_)
      · have c1 := nn_le (a := R1.2.2) (b := i) (by omega) (by omega) c1
        refine lv_iconst (v := (1 : Int32)) hx hb dX5_hasInside_28 (by decide) ?_
        exact mp_zret hx hb hr hlocks (Nat.le_of_ble_eq_true rfl) (Nat.le_of_ble_eq_true rfl) hM hS dX5_hasInside_29 (by first | rfl | exact bI_nar _) (⟨b1 (fun u hu => hinv u (by omega)), rfl⟩)
      · have c1 := nn_nle (a := R1.2.2) (b := i) (by omega) (by omega) c1
        refine lv_aload_n hx hb dX5_hasInside_10 rfl (lv_at hl 0 rfl) ?_
        refine lv_iload_n hx hb dX5_hasInside_11 rfl (lv_at hl 3 rfl) ?_
        refine lv_iload_n hx hb dX5_hasInside_12 rfl (lv_at hl 1 rfl) ?_
        refine lv_iload_n hx hb dX5_hasInside_13 rfl (lv_at hl 2 rfl) ?_
        refine mp_calli (va_runV (As := [.int (nI i), .int x, .int y]) (rest := []) ⟨hx, hb, hml, hown, hts⟩ (c_X5_leftness l X G A M r1 R1 h1 hs1 i (by omega) x y) (cwV 3 hts gX5_hasInside_X5_leftness rfl rfl rfl (by decide +kernel) ⟨Nat.le_of_ble_eq_true rfl, Nat.le_of_ble_eq_true rfl⟩) (mp_preV hC hS hM (mp_recv hC.1 hM hR1 (r := (RX5, TX5, 3)) rfl)) rfl rfl hl.1 rfl (lv_room (Nat.le_of_ble_eq_true rfl)) dX5_hasInside_14 ⟨Nat.le_of_ble_eq_true rfl, Nat.le_of_ble_eq_true rfl⟩) hS (fun H locs hM hS => ?_)
        refine lv_if_ge (tgt := 22) hx hb dX5_hasInside_17 (by decide) (fun c3 => ?_) (fun c3 => ?_)
        · have c3 := c3
          refine lv_iinc (v := nI (i + 1)) (lv' := [(3, .int (nI (i + 1))), (0, .ref r1), (1, .int x), (2, .int y)]) hx hb dX5_hasInside_22 hl (k := 3) rfl (nI_1 i) (by decide) rfl (fun ls hl => ?_)
          refine lv_goto (tgt := 2) hx hb dX5_hasInside_25 (by decide) ?_
          exact ih (i + 1) ls _ _ (by omega) (by omega) (fun u hu => (Nat.lt_succ_iff_lt_or_eq.mp hu).elim (hinv u) (fun z => by rw [z]; exact (i_nlt.mpr c3))) hM hS (lv_sub hl [1, 2, 3, 0] rfl)
        · have c3 := c3
          refine lv_iconst (v := (0 : Int32)) hx hb dX5_hasInside_20 (by decide) ?_
          exact mp_zret hx hb hr hlocks (Nat.le_of_ble_eq_true rfl) (Nat.le_of_ble_eq_true rfl) hM hS dX5_hasInside_21 (by first | rfl | exact bI_nar _) (⟨b0 (fun z => z i c1 (i_nle.mp c3)), rfl⟩)
  exact LP2 _ 0 ls _ _ (Nat.lt_succ_self _) (Nat.zero_le _) (fun u hu => absurd hu (Nat.not_lt_zero u)) hM hS (lv_sub hl [1, 2, 3, 0] rfl)
abbrev rmX5_hasSideNearer : Room := { frames := 2, cells := 0, slots := 0, locals := 66 }
set_option maxHeartbeats 4000000 in
set_option maxRecDepth 100000 in
theorem c_X5_hasSideNearer (l : Launch) (X : mp_X) (G : mp_G) (A : Nat → Prop) (M : mp_M) (r1 : Nat) (R1 : rg_R) (h1 : RingAt G M r1 R1) (hs1 : R1.2.2 ≤ 8) (x y d : Int32) : mp_Met l X G A yX5_hasSideNearer wsX5_hasSideNearer rmX5_hasSideNearer ([.ref r1, .int x, .int y, .int d] : List Value) M (fun v M1 => v = some (.int (bI (pB (cdN R1 x y d)))) ∧ M1 = M) 0 0 := by
  refine mp_ofW (cc := cX5_hasSideNearer) (maxL := 5) (ret := (some .boolean)) (by decide) rfl (Nat.le_of_ble_eq_true rfl) ?_
  intro p e s m below meth c ls hx hb hr hts hown hlocks hnm hml hC hM hS hl
  have hl : lv_has ls 5 [(0, .ref r1), (1, .int x), (2, .int y), (3, .int d)] := hl
  have hown : s.vm.findClass RX5 = some m.cls := hown
  have hin_wsX50 : ∀ w ∈ wsX50, w ∈ wsX5_hasSideNearer := fun _ h => List.mem_cons_of_mem _ (List.mem_append_right _ h)
  have fl_18 := hts (.fieldLink RX5 18 "PlanningBench$Ring" "size" "I") (List.mem_of_getElem? (i := 1) rfl)
  obtain ⟨k1, kx1, ky1, ax1, ay1, hR1, hX1, hY1⟩ := id h1
  refine lv_iconst (v := (0 : Int32)) hx hb dX5_hasSideNearer_0 (by decide) ?_
  refine lv_istore (lv' := [(4, .int (0 : Int32)), (0, .ref r1), (1, .int x), (2, .int y), (3, .int d)]) hx hb dX5_hasSideNearer_1 hl (by decide) rfl (fun ls hl => ?_)
  have LP3 : ∀ (kk : Nat) (i : Nat) (ls : Array Slot) (H : Heap) (locs : List Loc), R1.2.2 - i < kk → i ≤ R1.2.2 → (∀ u, u < i → ¬ cd_f R1 u x y d < 0) → mp_P G.1 A M H → va_S A s.heap H locs → lv_has ls 5 [(0, .ref r1), (1, .int x), (2, .int y), (3, .int d), (4, .int (nI i))] → W p l e rmX5_hasSideNearer s m ([.ref r1, .int x, .int y, .int d] : List Value).toArray below meth c H locs 0 0 (MQ below (mp_Q G.1 A (fun v M1 => v = some (.int (bI (pB (cdN R1 x y d)))) ∧ M1 = M)) ([.ref r1, .int x, .int y, .int d] : List Value).toArray s 0 0 A) (F0 m 3 ls []) := by
    intro kk
    induction kk with
    | zero => intro i ls H locs hk; exact absurd hk (Nat.not_lt_zero _)
    | succ kk ih =>
      intro i ls H locs hk hi hinv hM hS hl
      refine lv_iload hx hb dX5_hasSideNearer_3 (lv_at hl 4 rfl) ?_
      refine lv_aload_n hx hb dX5_hasSideNearer_5 rfl (lv_at hl 0 rfl) ?_
      refine va_get (D := G.1) (C := RX5) (T := TX5) (N := 3) (ci := 6) hx hb hts hin_wsX50 hown hC.1 (hM.one hR1) 0 rfl rfl 2 (by decide) fl_18 (fun _ z => z) rfl dX5_hasSideNearer_6 ?_
      refine lv_icmp_ge (tgt := 32) hx hb dX5_hasSideNearer_9 (by decide) (fun c1 => ?_) (fun c1 => ?_)
      · have c1 := nn_le (a := R1.2.2) (b := i) (by omega) (by omega) c1
        refine lv_iconst (v := (0 : Int32)) hx hb dX5_hasSideNearer_32 (by decide) ?_
        exact mp_zret hx hb hr hlocks (Nat.le_of_ble_eq_true rfl) (Nat.le_of_ble_eq_true rfl) hM hS dX5_hasSideNearer_33 (by first | rfl | exact bI_nar _) (⟨b0 (fun ⟨u, hu, z⟩ => hinv u (by omega) z), rfl⟩)
      · have c1 := nn_nle (a := R1.2.2) (b := i) (by omega) (by omega) c1
        refine lv_aload_n hx hb dX5_hasSideNearer_12 rfl (lv_at hl 0 rfl) ?_
        refine lv_iload hx hb dX5_hasSideNearer_13 (lv_at hl 4 rfl) ?_
        refine lv_iload_n hx hb dX5_hasSideNearer_15 rfl (lv_at hl 1 rfl) ?_
        refine lv_iload_n hx hb dX5_hasSideNearer_16 rfl (lv_at hl 2 rfl) ?_
        refine lv_iload_n hx hb dX5_hasSideNearer_17 rfl (lv_at hl 3 rfl) ?_
        refine mp_calli (va_runV (As := [.int (nI i), .int x, .int y, .int d]) (rest := []) ⟨hx, hb, hml, hown, hts⟩ (c_X5_compareDistance l X G A M r1 R1 h1 hs1 i (by omega) x y d) (cwV 4 hts gX5_hasSideNearer_X5_compareDistance rfl rfl rfl (by decide +kernel) ⟨Nat.le_of_ble_eq_true rfl, Nat.le_of_ble_eq_true rfl⟩) (mp_preV hC hS hM (mp_recv hC.1 hM hR1 (r := (RX5, TX5, 3)) rfl)) rfl rfl hl.1 rfl (lv_room (Nat.le_of_ble_eq_true rfl)) dX5_hasSideNearer_18 ⟨Nat.le_of_ble_eq_true rfl, Nat.le_of_ble_eq_true rfl⟩) hS (fun H locs hM hS => ?_)
        refine lv_if_ge (tgt := 26) hx hb dX5_hasSideNearer_21 (by decide) (fun c3 => ?_) (fun c3 => ?_)
        · have c3 := c3
          refine lv_iinc (v := nI (i + 1)) (lv' := [(4, .int (nI (i + 1))), (0, .ref r1), (1, .int x), (2, .int y), (3, .int d)]) hx hb dX5_hasSideNearer_26 hl (k := 4) rfl (nI_1 i) (by decide) rfl (fun ls hl => ?_)
          refine lv_goto (tgt := 3) hx hb dX5_hasSideNearer_29 (by decide) ?_
          exact ih (i + 1) ls _ _ (by omega) (by omega) (fun u hu => (Nat.lt_succ_iff_lt_or_eq.mp hu).elim (hinv u) (fun z => by rw [z]; exact (i_nlt.mpr c3))) hM hS (lv_sub hl [1, 2, 3, 4, 0] rfl)
        · have c3 := c3
          refine lv_iconst (v := (1 : Int32)) hx hb dX5_hasSideNearer_24 (by decide) ?_
          exact mp_zret hx hb hr hlocks (Nat.le_of_ble_eq_true rfl) (Nat.le_of_ble_eq_true rfl) hM hS dX5_hasSideNearer_25 (by first | rfl | exact bI_nar _) (⟨b1 ⟨i, c1, i_nle.mp c3⟩, rfl⟩)
  exact LP3 _ 0 ls _ _ (Nat.lt_succ_self _) (Nat.zero_le _) (fun u hu => absurd hu (Nat.not_lt_zero u)) hM hS (lv_sub hl [1, 2, 3, 4, 0] rfl)
abbrev rmX5_surrounds : Room := { frames := 3, cells := 0, slots := 0, locals := 68 }
set_option maxHeartbeats 4000000 in
set_option maxRecDepth 100000 in
theorem c_X5_surrounds (l : Launch) (X : mp_X) (G : mp_G) (A : Nat → Prop) (M : mp_M) (r1 : Nat) (R1 : rg_R) (h1 : RingAt G M r1 R1) (hs1 : R1.2.2 ≤ 8) (d1 : Nat) (D1 : ds_D) (g1 : DesAt M d1 D1) : mp_Met l X G A yX5_surrounds wsX5_surrounds rmX5_surrounds ([.ref r1, .ref d1] : List Value) M (fun v M1 => v = some (.int (bI (pB (rg_ins R1 D1.2.1 D1.2.2.1 ∧ rg_ins R1 D1.2.2.2.1 D1.2.2.1 ∧ rg_ins R1 D1.2.2.2.1 D1.2.2.2.2.1 ∧ rg_ins R1 D1.2.1 D1.2.2.2.2.1)))) ∧ M1 = M) 0 0 := by
  refine mp_ofW (cc := cX5_surrounds) (maxL := 2) (ret := (some .boolean)) (by decide) rfl (Nat.le_of_ble_eq_true rfl) ?_
  intro p e s m below meth c ls hx hb hr hts hown hlocks hnm hml hC hM hS hl
  have hl : lv_has ls 2 [(0, .ref r1), (1, .ref d1)] := hl
  have hown : s.vm.findClass RX5 = some m.cls := hown
  have hin_wsX10 : ∀ w ∈ wsX10, w ∈ wsX5_surrounds := fun _ h => List.mem_cons_of_mem _ (List.mem_append_left _ (List.mem_append_right _ h))
  have nf_50 := hC.2.1 (.fieldLinkNest RX5 50 "PlanningBench$Design" "x0" "I" "PlanningBench") (List.mem_of_getElem? (i := 13) rfl)
  have nf_55 := hC.2.1 (.fieldLinkNest RX5 55 "PlanningBench$Design" "y0" "I" "PlanningBench") (List.mem_of_getElem? (i := 14) rfl)
  have nf_62 := hC.2.1 (.fieldLinkNest RX5 62 "PlanningBench$Design" "x1" "I" "PlanningBench") (List.mem_of_getElem? (i := 15) rfl)
  have nf_65 := hC.2.1 (.fieldLinkNest RX5 65 "PlanningBench$Design" "y1" "I" "PlanningBench") (List.mem_of_getElem? (i := 16) rfl)
  obtain ⟨k1, kx1, ky1, ax1, ay1, hR1, hX1, hY1⟩ := id h1
  obtain ⟨kd1, hD1⟩ := id g1
  refine lv_aload_n hx hb dX5_surrounds_0 rfl (lv_at hl 0 rfl) ?_
  refine lv_aload_n hx hb dX5_surrounds_1 rfl (lv_at hl 1 rfl) ?_
  refine va_getN (D := G.1) (C := RX1) (T := TX1) (N := 7) (ci := 2) hx hb hts hin_wsX10 hown hC.1 (hM.one hD1) 0 rfl rfl 1 (by decide) (va_Nw.use rfl nf_50) (fun _ z => z) rfl dX5_surrounds_2 ?_
  refine lv_aload_n hx hb dX5_surrounds_5 rfl (lv_at hl 1 rfl) ?_
  refine va_getN (D := G.1) (C := RX1) (T := TX1) (N := 7) (ci := 2) hx hb hts hin_wsX10 hown hC.1 (hM.one hD1) 0 rfl rfl 2 (by decide) (va_Nw.use rfl nf_55) (fun _ z => z) rfl dX5_surrounds_6 ?_
  refine mp_calli (va_runV (As := [.int D1.2.1, .int D1.2.2.1]) (rest := []) ⟨hx, hb, hml, hown, hts⟩ (c_X5_hasInside l X G A M r1 R1 h1 hs1 D1.2.1 D1.2.2.1) (cwV 2 hts gX5_surrounds_X5_hasInside rfl rfl rfl (by decide +kernel) ⟨Nat.le_of_ble_eq_true rfl, Nat.le_of_ble_eq_true rfl⟩) (mp_preV hC hS hM (mp_recv hC.1 hM hR1 (r := (RX5, TX5, 3)) rfl)) rfl rfl hl.1 rfl (lv_room (Nat.le_of_ble_eq_true rfl)) dX5_surrounds_9 ⟨Nat.le_of_ble_eq_true rfl, Nat.le_of_ble_eq_true rfl⟩) hS (fun H locs hM hS => ?_)
  refine lv_if_eq (tgt := 64) hx hb dX5_surrounds_12 (by decide) (fun c1 => ?_) (fun c1 => ?_)
  · have c1 : (pB (rg_ins R1 D1.2.1 D1.2.2.1)) = false := bI_0.mp c1
    refine lv_iconst (v := (0 : Int32)) hx hb dX5_surrounds_64 (by decide) ?_
    exact mp_zret hx hb hr hlocks (Nat.le_of_ble_eq_true rfl) (Nat.le_of_ble_eq_true rfl) hM hS dX5_surrounds_65 (by first | rfl | exact bI_nar _) (⟨b0 (fun z => pB_not.mp c1 z.1), rfl⟩)
  · have c1 : (pB (rg_ins R1 D1.2.1 D1.2.2.1)) = true := bI_1.mp c1
    refine lv_aload_n hx hb dX5_surrounds_15 rfl (lv_at hl 0 rfl) ?_
    refine lv_aload_n hx hb dX5_surrounds_16 rfl (lv_at hl 1 rfl) ?_
    refine va_getN (D := G.1) (C := RX1) (T := TX1) (N := 7) (ci := 2) hx hb hts hin_wsX10 hown hC.1 (hM.one hD1) 0 rfl rfl 3 (by decide) (va_Nw.use rfl nf_62) (fun _ z => z) rfl dX5_surrounds_17 ?_
    refine lv_aload_n hx hb dX5_surrounds_20 rfl (lv_at hl 1 rfl) ?_
    refine va_getN (D := G.1) (C := RX1) (T := TX1) (N := 7) (ci := 2) hx hb hts hin_wsX10 hown hC.1 (hM.one hD1) 0 rfl rfl 2 (by decide) (va_Nw.use rfl nf_55) (fun _ z => z) rfl dX5_surrounds_21 ?_
    refine mp_calli (va_runV (As := [.int D1.2.2.2.1, .int D1.2.2.1]) (rest := []) ⟨hx, hb, hml, hown, hts⟩ (c_X5_hasInside l X G A M r1 R1 h1 hs1 D1.2.2.2.1 D1.2.2.1) (cwV 2 hts gX5_surrounds_X5_hasInside rfl rfl rfl (by decide +kernel) ⟨Nat.le_of_ble_eq_true rfl, Nat.le_of_ble_eq_true rfl⟩) (mp_preV hC hS hM (mp_recv hC.1 hM hR1 (r := (RX5, TX5, 3)) rfl)) rfl rfl hl.1 rfl (lv_room (Nat.le_of_ble_eq_true rfl)) dX5_surrounds_24 ⟨Nat.le_of_ble_eq_true rfl, Nat.le_of_ble_eq_true rfl⟩) hS (fun H locs hM hS => ?_)
    refine lv_if_eq (tgt := 64) hx hb dX5_surrounds_27 (by decide) (fun c3 => ?_) (fun c3 => ?_)
    · have c3 : (pB (rg_ins R1 D1.2.2.2.1 D1.2.2.1)) = false := bI_0.mp c3
      refine lv_iconst (v := (0 : Int32)) hx hb dX5_surrounds_64 (by decide) ?_
      exact mp_zret hx hb hr hlocks (Nat.le_of_ble_eq_true rfl) (Nat.le_of_ble_eq_true rfl) hM hS dX5_surrounds_65 (by first | rfl | exact bI_nar _) (⟨b0 (fun z => pB_not.mp c3 z.2.1), rfl⟩)
    · have c3 : (pB (rg_ins R1 D1.2.2.2.1 D1.2.2.1)) = true := bI_1.mp c3
      refine lv_aload_n hx hb dX5_surrounds_30 rfl (lv_at hl 0 rfl) ?_
      refine lv_aload_n hx hb dX5_surrounds_31 rfl (lv_at hl 1 rfl) ?_
      refine va_getN (D := G.1) (C := RX1) (T := TX1) (N := 7) (ci := 2) hx hb hts hin_wsX10 hown hC.1 (hM.one hD1) 0 rfl rfl 3 (by decide) (va_Nw.use rfl nf_62) (fun _ z => z) rfl dX5_surrounds_32 ?_
      refine lv_aload_n hx hb dX5_surrounds_35 rfl (lv_at hl 1 rfl) ?_
      refine va_getN (D := G.1) (C := RX1) (T := TX1) (N := 7) (ci := 2) hx hb hts hin_wsX10 hown hC.1 (hM.one hD1) 0 rfl rfl 4 (by decide) (va_Nw.use rfl nf_65) (fun _ z => z) rfl dX5_surrounds_36 ?_
      refine mp_calli (va_runV (As := [.int D1.2.2.2.1, .int D1.2.2.2.2.1]) (rest := []) ⟨hx, hb, hml, hown, hts⟩ (c_X5_hasInside l X G A M r1 R1 h1 hs1 D1.2.2.2.1 D1.2.2.2.2.1) (cwV 2 hts gX5_surrounds_X5_hasInside rfl rfl rfl (by decide +kernel) ⟨Nat.le_of_ble_eq_true rfl, Nat.le_of_ble_eq_true rfl⟩) (mp_preV hC hS hM (mp_recv hC.1 hM hR1 (r := (RX5, TX5, 3)) rfl)) rfl rfl hl.1 rfl (lv_room (Nat.le_of_ble_eq_true rfl)) dX5_surrounds_39 ⟨Nat.le_of_ble_eq_true rfl, Nat.le_of_ble_eq_true rfl⟩) hS (fun H locs hM hS => ?_)
      refine lv_if_eq (tgt := 64) hx hb dX5_surrounds_42 (by decide) (fun c4 => ?_) (fun c4 => ?_)
      · have c4 : (pB (rg_ins R1 D1.2.2.2.1 D1.2.2.2.2.1)) = false := bI_0.mp c4
        refine lv_iconst (v := (0 : Int32)) hx hb dX5_surrounds_64 (by decide) ?_
        exact mp_zret hx hb hr hlocks (Nat.le_of_ble_eq_true rfl) (Nat.le_of_ble_eq_true rfl) hM hS dX5_surrounds_65 (by first | rfl | exact bI_nar _) (⟨b0 (fun z => pB_not.mp c4 z.2.2.1), rfl⟩)
      · have c4 : (pB (rg_ins R1 D1.2.2.2.1 D1.2.2.2.2.1)) = true := bI_1.mp c4
        refine lv_aload_n hx hb dX5_surrounds_45 rfl (lv_at hl 0 rfl) ?_
        refine lv_aload_n hx hb dX5_surrounds_46 rfl (lv_at hl 1 rfl) ?_
        refine va_getN (D := G.1) (C := RX1) (T := TX1) (N := 7) (ci := 2) hx hb hts hin_wsX10 hown hC.1 (hM.one hD1) 0 rfl rfl 1 (by decide) (va_Nw.use rfl nf_50) (fun _ z => z) rfl dX5_surrounds_47 ?_
        refine lv_aload_n hx hb dX5_surrounds_50 rfl (lv_at hl 1 rfl) ?_
        refine va_getN (D := G.1) (C := RX1) (T := TX1) (N := 7) (ci := 2) hx hb hts hin_wsX10 hown hC.1 (hM.one hD1) 0 rfl rfl 4 (by decide) (va_Nw.use rfl nf_65) (fun _ z => z) rfl dX5_surrounds_51 ?_
        refine mp_calli (va_runV (As := [.int D1.2.1, .int D1.2.2.2.2.1]) (rest := []) ⟨hx, hb, hml, hown, hts⟩ (c_X5_hasInside l X G A M r1 R1 h1 hs1 D1.2.1 D1.2.2.2.2.1) (cwV 2 hts gX5_surrounds_X5_hasInside rfl rfl rfl (by decide +kernel) ⟨Nat.le_of_ble_eq_true rfl, Nat.le_of_ble_eq_true rfl⟩) (mp_preV hC hS hM (mp_recv hC.1 hM hR1 (r := (RX5, TX5, 3)) rfl)) rfl rfl hl.1 rfl (lv_room (Nat.le_of_ble_eq_true rfl)) dX5_surrounds_54 ⟨Nat.le_of_ble_eq_true rfl, Nat.le_of_ble_eq_true rfl⟩) hS (fun H locs hM hS => ?_)
        refine lv_if_eq (tgt := 64) hx hb dX5_surrounds_57 (by decide) (fun c5 => ?_) (fun c5 => ?_)
        · have c5 : (pB (rg_ins R1 D1.2.1 D1.2.2.2.2.1)) = false := bI_0.mp c5
          refine lv_iconst (v := (0 : Int32)) hx hb dX5_surrounds_64 (by decide) ?_
          exact mp_zret hx hb hr hlocks (Nat.le_of_ble_eq_true rfl) (Nat.le_of_ble_eq_true rfl) hM hS dX5_surrounds_65 (by first | rfl | exact bI_nar _) (⟨b0 (fun z => pB_not.mp c5 z.2.2.2), rfl⟩)
        · have c5 : (pB (rg_ins R1 D1.2.1 D1.2.2.2.2.1)) = true := bI_1.mp c5
          refine lv_iconst (v := (1 : Int32)) hx hb dX5_surrounds_60 (by decide) ?_
          refine lv_goto (tgt := 65) hx hb dX5_surrounds_61 (by decide) ?_
          exact mp_zret hx hb hr hlocks (Nat.le_of_ble_eq_true rfl) (Nat.le_of_ble_eq_true rfl) hM hS dX5_surrounds_65 (by first | rfl | exact bI_nar _) (⟨b1 ⟨pB_iff.mp c1, pB_iff.mp c3, pB_iff.mp c4, pB_iff.mp c5⟩, rfl⟩)
abbrev rmX5_hasSideNearerThan : Room := { frames := 3, cells := 0, slots := 0, locals := 90 }
set_option maxHeartbeats 4000000 in
set_option maxRecDepth 100000 in
theorem c_X5_hasSideNearerThan (l : Launch) (X : mp_X) (G : mp_G) (A : Nat → Prop) (M : mp_M) (r1 : Nat) (R1 : rg_R) (h1 : RingAt G M r1 R1) (hs1 : R1.2.2 ≤ 8) (d : Int32) (d1 : Nat) (D1 : ds_D) (g1 : DesAt M d1 D1) : mp_Met l X G A yX5_hasSideNearerThan wsX5_hasSideNearerThan rmX5_hasSideNearerThan ([.ref r1, .int d, .ref d1] : List Value) M (fun v M1 => v = some (.int (bI (pB (cdN R1 D1.2.1 D1.2.2.1 d ∨ cdN R1 D1.2.2.2.1 D1.2.2.1 d ∨ cdN R1 D1.2.2.2.1 D1.2.2.2.2.1 d ∨ cdN R1 D1.2.1 D1.2.2.2.2.1 d)))) ∧ M1 = M) 0 0 := by
  refine mp_ofW (cc := cX5_hasSideNearerThan) (maxL := 3) (ret := (some .boolean)) (by decide) rfl (Nat.le_of_ble_eq_true rfl) ?_
  intro p e s m below meth c ls hx hb hr hts hown hlocks hnm hml hC hM hS hl
  have hl : lv_has ls 3 [(0, .ref r1), (1, .int d), (2, .ref d1)] := hl
  have hown : s.vm.findClass RX5 = some m.cls := hown
  have hin_wsX10 : ∀ w ∈ wsX10, w ∈ wsX5_hasSideNearerThan := fun _ h => List.mem_cons_of_mem _ (List.mem_append_left _ (List.mem_append_right _ h))
  have nf_50 := hC.2.1 (.fieldLinkNest RX5 50 "PlanningBench$Design" "x0" "I" "PlanningBench") (List.mem_of_getElem? (i := 13) rfl)
  have nf_55 := hC.2.1 (.fieldLinkNest RX5 55 "PlanningBench$Design" "y0" "I" "PlanningBench") (List.mem_of_getElem? (i := 14) rfl)
  have nf_62 := hC.2.1 (.fieldLinkNest RX5 62 "PlanningBench$Design" "x1" "I" "PlanningBench") (List.mem_of_getElem? (i := 15) rfl)
  have nf_65 := hC.2.1 (.fieldLinkNest RX5 65 "PlanningBench$Design" "y1" "I" "PlanningBench") (List.mem_of_getElem? (i := 16) rfl)
  obtain ⟨k1, kx1, ky1, ax1, ay1, hR1, hX1, hY1⟩ := id h1
  obtain ⟨kd1, hD1⟩ := id g1
  refine lv_aload_n hx hb dX5_hasSideNearerThan_0 rfl (lv_at hl 0 rfl) ?_
  refine lv_aload_n hx hb dX5_hasSideNearerThan_1 rfl (lv_at hl 2 rfl) ?_
  refine va_getN (D := G.1) (C := RX1) (T := TX1) (N := 7) (ci := 2) hx hb hts hin_wsX10 hown hC.1 (hM.one hD1) 0 rfl rfl 1 (by decide) (va_Nw.use rfl nf_50) (fun _ z => z) rfl dX5_hasSideNearerThan_2 ?_
  refine lv_aload_n hx hb dX5_hasSideNearerThan_5 rfl (lv_at hl 2 rfl) ?_
  refine va_getN (D := G.1) (C := RX1) (T := TX1) (N := 7) (ci := 2) hx hb hts hin_wsX10 hown hC.1 (hM.one hD1) 0 rfl rfl 2 (by decide) (va_Nw.use rfl nf_55) (fun _ z => z) rfl dX5_hasSideNearerThan_6 ?_
  refine lv_iload_n hx hb dX5_hasSideNearerThan_9 rfl (lv_at hl 1 rfl) ?_
  refine mp_calli (va_runV (As := [.int D1.2.1, .int D1.2.2.1, .int d]) (rest := []) ⟨hx, hb, hml, hown, hts⟩ (c_X5_hasSideNearer l X G A M r1 R1 h1 hs1 D1.2.1 D1.2.2.1 d) (cwV 3 hts gX5_hasSideNearerThan_X5_hasSideNearer rfl rfl rfl (by decide +kernel) ⟨Nat.le_of_ble_eq_true rfl, Nat.le_of_ble_eq_true rfl⟩) (mp_preV hC hS hM (mp_recv hC.1 hM hR1 (r := (RX5, TX5, 3)) rfl)) rfl rfl hl.1 rfl (lv_room (Nat.le_of_ble_eq_true rfl)) dX5_hasSideNearerThan_10 ⟨Nat.le_of_ble_eq_true rfl, Nat.le_of_ble_eq_true rfl⟩) hS (fun H locs hM hS => ?_)
  refine lv_if_ne (tgt := 64) hx hb dX5_hasSideNearerThan_13 (by decide) (fun c1 => ?_) (fun c1 => ?_)
  · have c1 : (pB (cdN R1 D1.2.1 D1.2.2.1 d)) = true := bI_1.mp c1
    refine lv_iconst (v := (1 : Int32)) hx hb dX5_hasSideNearerThan_64 (by decide) ?_
    refine lv_goto (tgt := 69) hx hb dX5_hasSideNearerThan_65 (by decide) ?_
    exact mp_zret hx hb hr hlocks (Nat.le_of_ble_eq_true rfl) (Nat.le_of_ble_eq_true rfl) hM hS dX5_hasSideNearerThan_69 (by first | rfl | exact bI_nar _) (⟨b1 (Or.inl (pB_iff.mp c1)), rfl⟩)
  · have c1 : (pB (cdN R1 D1.2.1 D1.2.2.1 d)) = false := bI_0.mp c1
    refine lv_aload_n hx hb dX5_hasSideNearerThan_16 rfl (lv_at hl 0 rfl) ?_
    refine lv_aload_n hx hb dX5_hasSideNearerThan_17 rfl (lv_at hl 2 rfl) ?_
    refine va_getN (D := G.1) (C := RX1) (T := TX1) (N := 7) (ci := 2) hx hb hts hin_wsX10 hown hC.1 (hM.one hD1) 0 rfl rfl 3 (by decide) (va_Nw.use rfl nf_62) (fun _ z => z) rfl dX5_hasSideNearerThan_18 ?_
    refine lv_aload_n hx hb dX5_hasSideNearerThan_21 rfl (lv_at hl 2 rfl) ?_
    refine va_getN (D := G.1) (C := RX1) (T := TX1) (N := 7) (ci := 2) hx hb hts hin_wsX10 hown hC.1 (hM.one hD1) 0 rfl rfl 2 (by decide) (va_Nw.use rfl nf_55) (fun _ z => z) rfl dX5_hasSideNearerThan_22 ?_
    refine lv_iload_n hx hb dX5_hasSideNearerThan_25 rfl (lv_at hl 1 rfl) ?_
    refine mp_calli (va_runV (As := [.int D1.2.2.2.1, .int D1.2.2.1, .int d]) (rest := []) ⟨hx, hb, hml, hown, hts⟩ (c_X5_hasSideNearer l X G A M r1 R1 h1 hs1 D1.2.2.2.1 D1.2.2.1 d) (cwV 3 hts gX5_hasSideNearerThan_X5_hasSideNearer rfl rfl rfl (by decide +kernel) ⟨Nat.le_of_ble_eq_true rfl, Nat.le_of_ble_eq_true rfl⟩) (mp_preV hC hS hM (mp_recv hC.1 hM hR1 (r := (RX5, TX5, 3)) rfl)) rfl rfl hl.1 rfl (lv_room (Nat.le_of_ble_eq_true rfl)) dX5_hasSideNearerThan_26 ⟨Nat.le_of_ble_eq_true rfl, Nat.le_of_ble_eq_true rfl⟩) hS (fun H locs hM hS => ?_)
    refine lv_if_ne (tgt := 64) hx hb dX5_hasSideNearerThan_29 (by decide) (fun c3 => ?_) (fun c3 => ?_)
    · have c3 : (pB (cdN R1 D1.2.2.2.1 D1.2.2.1 d)) = true := bI_1.mp c3
      refine lv_iconst (v := (1 : Int32)) hx hb dX5_hasSideNearerThan_64 (by decide) ?_
      refine lv_goto (tgt := 69) hx hb dX5_hasSideNearerThan_65 (by decide) ?_
      exact mp_zret hx hb hr hlocks (Nat.le_of_ble_eq_true rfl) (Nat.le_of_ble_eq_true rfl) hM hS dX5_hasSideNearerThan_69 (by first | rfl | exact bI_nar _) (⟨b1 (Or.inr (Or.inl (pB_iff.mp c3))), rfl⟩)
    · have c3 : (pB (cdN R1 D1.2.2.2.1 D1.2.2.1 d)) = false := bI_0.mp c3
      refine lv_aload_n hx hb dX5_hasSideNearerThan_32 rfl (lv_at hl 0 rfl) ?_
      refine lv_aload_n hx hb dX5_hasSideNearerThan_33 rfl (lv_at hl 2 rfl) ?_
      refine va_getN (D := G.1) (C := RX1) (T := TX1) (N := 7) (ci := 2) hx hb hts hin_wsX10 hown hC.1 (hM.one hD1) 0 rfl rfl 3 (by decide) (va_Nw.use rfl nf_62) (fun _ z => z) rfl dX5_hasSideNearerThan_34 ?_
      refine lv_aload_n hx hb dX5_hasSideNearerThan_37 rfl (lv_at hl 2 rfl) ?_
      refine va_getN (D := G.1) (C := RX1) (T := TX1) (N := 7) (ci := 2) hx hb hts hin_wsX10 hown hC.1 (hM.one hD1) 0 rfl rfl 4 (by decide) (va_Nw.use rfl nf_65) (fun _ z => z) rfl dX5_hasSideNearerThan_38 ?_
      refine lv_iload_n hx hb dX5_hasSideNearerThan_41 rfl (lv_at hl 1 rfl) ?_
      refine mp_calli (va_runV (As := [.int D1.2.2.2.1, .int D1.2.2.2.2.1, .int d]) (rest := []) ⟨hx, hb, hml, hown, hts⟩ (c_X5_hasSideNearer l X G A M r1 R1 h1 hs1 D1.2.2.2.1 D1.2.2.2.2.1 d) (cwV 3 hts gX5_hasSideNearerThan_X5_hasSideNearer rfl rfl rfl (by decide +kernel) ⟨Nat.le_of_ble_eq_true rfl, Nat.le_of_ble_eq_true rfl⟩) (mp_preV hC hS hM (mp_recv hC.1 hM hR1 (r := (RX5, TX5, 3)) rfl)) rfl rfl hl.1 rfl (lv_room (Nat.le_of_ble_eq_true rfl)) dX5_hasSideNearerThan_42 ⟨Nat.le_of_ble_eq_true rfl, Nat.le_of_ble_eq_true rfl⟩) hS (fun H locs hM hS => ?_)
      refine lv_if_ne (tgt := 64) hx hb dX5_hasSideNearerThan_45 (by decide) (fun c4 => ?_) (fun c4 => ?_)
      · have c4 : (pB (cdN R1 D1.2.2.2.1 D1.2.2.2.2.1 d)) = true := bI_1.mp c4
        refine lv_iconst (v := (1 : Int32)) hx hb dX5_hasSideNearerThan_64 (by decide) ?_
        refine lv_goto (tgt := 69) hx hb dX5_hasSideNearerThan_65 (by decide) ?_
        exact mp_zret hx hb hr hlocks (Nat.le_of_ble_eq_true rfl) (Nat.le_of_ble_eq_true rfl) hM hS dX5_hasSideNearerThan_69 (by first | rfl | exact bI_nar _) (⟨b1 (Or.inr (Or.inr (Or.inl (pB_iff.mp c4)))), rfl⟩)
      · have c4 : (pB (cdN R1 D1.2.2.2.1 D1.2.2.2.2.1 d)) = false := bI_0.mp c4
        refine lv_aload_n hx hb dX5_hasSideNearerThan_48 rfl (lv_at hl 0 rfl) ?_
        refine lv_aload_n hx hb dX5_hasSideNearerThan_49 rfl (lv_at hl 2 rfl) ?_
        refine va_getN (D := G.1) (C := RX1) (T := TX1) (N := 7) (ci := 2) hx hb hts hin_wsX10 hown hC.1 (hM.one hD1) 0 rfl rfl 1 (by decide) (va_Nw.use rfl nf_50) (fun _ z => z) rfl dX5_hasSideNearerThan_50 ?_
        refine lv_aload_n hx hb dX5_hasSideNearerThan_53 rfl (lv_at hl 2 rfl) ?_
        refine va_getN (D := G.1) (C := RX1) (T := TX1) (N := 7) (ci := 2) hx hb hts hin_wsX10 hown hC.1 (hM.one hD1) 0 rfl rfl 4 (by decide) (va_Nw.use rfl nf_65) (fun _ z => z) rfl dX5_hasSideNearerThan_54 ?_
        refine lv_iload_n hx hb dX5_hasSideNearerThan_57 rfl (lv_at hl 1 rfl) ?_
        refine mp_calli (va_runV (As := [.int D1.2.1, .int D1.2.2.2.2.1, .int d]) (rest := []) ⟨hx, hb, hml, hown, hts⟩ (c_X5_hasSideNearer l X G A M r1 R1 h1 hs1 D1.2.1 D1.2.2.2.2.1 d) (cwV 3 hts gX5_hasSideNearerThan_X5_hasSideNearer rfl rfl rfl (by decide +kernel) ⟨Nat.le_of_ble_eq_true rfl, Nat.le_of_ble_eq_true rfl⟩) (mp_preV hC hS hM (mp_recv hC.1 hM hR1 (r := (RX5, TX5, 3)) rfl)) rfl rfl hl.1 rfl (lv_room (Nat.le_of_ble_eq_true rfl)) dX5_hasSideNearerThan_58 ⟨Nat.le_of_ble_eq_true rfl, Nat.le_of_ble_eq_true rfl⟩) hS (fun H locs hM hS => ?_)
        refine lv_if_eq (tgt := 68) hx hb dX5_hasSideNearerThan_61 (by decide) (fun c5 => ?_) (fun c5 => ?_)
        · have c5 : (pB (cdN R1 D1.2.1 D1.2.2.2.2.1 d)) = false := bI_0.mp c5
          refine lv_iconst (v := (0 : Int32)) hx hb dX5_hasSideNearerThan_68 (by decide) ?_
          exact mp_zret hx hb hr hlocks (Nat.le_of_ble_eq_true rfl) (Nat.le_of_ble_eq_true rfl) hM hS dX5_hasSideNearerThan_69 (by first | rfl | exact bI_nar _) (⟨b0 (fun z => z.elim (pB_not.mp c1) (fun z => z.elim (pB_not.mp c3) (fun z => z.elim (pB_not.mp c4) (pB_not.mp c5)))), rfl⟩)
        · have c5 : (pB (cdN R1 D1.2.1 D1.2.2.2.2.1 d)) = true := bI_1.mp c5
          refine lv_iconst (v := (1 : Int32)) hx hb dX5_hasSideNearerThan_64 (by decide) ?_
          refine lv_goto (tgt := 69) hx hb dX5_hasSideNearerThan_65 (by decide) ?_
          exact mp_zret hx hb hr hlocks (Nat.le_of_ble_eq_true rfl) (Nat.le_of_ble_eq_true rfl) hM hS dX5_hasSideNearerThan_69 (by first | rfl | exact bI_nar _) (⟨b1 (Or.inr (Or.inr (Or.inr (pB_iff.mp c5)))), rfl⟩)
abbrev rmX1_area : Room := { frames := 0, cells := 0, slots := 0, locals := 0 }
set_option maxHeartbeats 4000000 in
set_option maxRecDepth 100000 in
theorem c_X1_area (l : Launch) (X : mp_X) (G : mp_G) (A : Nat → Prop) (M : mp_M) (d1 : Nat) (D1 : ds_D) (g1 : DesAt M d1 D1) : mp_Met l X G A yX1_area wsX1_area rmX1_area ([.ref d1] : List Value) M (fun v M1 => v = some (.int ((D1.2.2.2.1 - D1.2.1) * (D1.2.2.2.2.1 - D1.2.2.1))) ∧ M1 = M) 0 0 := by
  refine mp_ofW (cc := cX1_area) (maxL := 1) (ret := (some .int)) (by decide) rfl (Nat.le_of_ble_eq_true rfl) ?_
  intro p e s m below meth c ls hx hb hr hts hown hlocks hnm hml hC hM hS hl
  have hl : lv_has ls 1 [(0, .ref d1)] := hl
  have hown : s.vm.findClass RX1 = some m.cls := hown
  have hin_wsX10 : ∀ w ∈ wsX10, w ∈ wsX1_area := fun _ h => List.mem_cons_of_mem _ (List.mem_append_right _ h)
  have fl_19 := hts (.fieldLink RX1 19 "PlanningBench$Design" "x1" "I") (List.mem_of_getElem? (i := 1) rfl)
  have fl_13 := hts (.fieldLink RX1 13 "PlanningBench$Design" "x0" "I") (List.mem_of_getElem? (i := 2) rfl)
  have fl_22 := hts (.fieldLink RX1 22 "PlanningBench$Design" "y1" "I") (List.mem_of_getElem? (i := 3) rfl)
  have fl_16 := hts (.fieldLink RX1 16 "PlanningBench$Design" "y0" "I") (List.mem_of_getElem? (i := 4) rfl)
  obtain ⟨kd1, hD1⟩ := id g1
  refine lv_aload_n hx hb dX1_area_0 rfl (lv_at hl 0 rfl) ?_
  refine va_get (D := G.1) (C := RX1) (T := TX1) (N := 7) (ci := 2) hx hb hts hin_wsX10 hown hC.1 (hM.one hD1) 0 rfl rfl 3 (by decide) fl_19 (fun _ z => z) rfl dX1_area_1 ?_
  refine lv_aload_n hx hb dX1_area_4 rfl (lv_at hl 0 rfl) ?_
  refine va_get (D := G.1) (C := RX1) (T := TX1) (N := 7) (ci := 2) hx hb hts hin_wsX10 hown hC.1 (hM.one hD1) 0 rfl rfl 1 (by decide) fl_13 (fun _ z => z) rfl dX1_area_5 ?_
  refine lv_isub hx hb dX1_area_8 ?_
  refine lv_aload_n hx hb dX1_area_9 rfl (lv_at hl 0 rfl) ?_
  refine va_get (D := G.1) (C := RX1) (T := TX1) (N := 7) (ci := 2) hx hb hts hin_wsX10 hown hC.1 (hM.one hD1) 0 rfl rfl 4 (by decide) fl_22 (fun _ z => z) rfl dX1_area_10 ?_
  refine lv_aload_n hx hb dX1_area_13 rfl (lv_at hl 0 rfl) ?_
  refine va_get (D := G.1) (C := RX1) (T := TX1) (N := 7) (ci := 2) hx hb hts hin_wsX10 hown hC.1 (hM.one hD1) 0 rfl rfl 2 (by decide) fl_16 (fun _ z => z) rfl dX1_area_14 ?_
  refine lv_isub hx hb dX1_area_17 ?_
  refine lv_imul hx hb dX1_area_18 ?_
  exact mp_iret hx hb hr hlocks (Nat.le_of_ble_eq_true rfl) (Nat.le_of_ble_eq_true rfl) hM hS dX1_area_19 (⟨rfl, rfl⟩)
abbrev rmX1_meets : Room := { frames := 0, cells := 0, slots := 0, locals := 0 }
set_option maxHeartbeats 4000000 in
set_option maxRecDepth 100000 in
theorem c_X1_meets (l : Launch) (X : mp_X) (G : mp_G) (A : Nat → Prop) (M : mp_M) (d1 : Nat) (D1 : ds_D) (g1 : DesAt M d1 D1) (d2 : Nat) (D2 : ds_D) (g2 : DesAt M d2 D2) : mp_Met l X G A yX1_meets wsX1_meets rmX1_meets ([.ref d1, .ref d2] : List Value) M (fun v M1 => v = some (.int (bI (pB (D1.2.1 < D2.2.2.2.1 ∧ D2.2.1 < D1.2.2.2.1 ∧ D1.2.2.1 < D2.2.2.2.2.1 ∧ D2.2.2.1 < D1.2.2.2.2.1)))) ∧ M1 = M) 0 0 := by
  refine mp_ofW (cc := cX1_meets) (maxL := 2) (ret := (some .boolean)) (by decide) rfl (Nat.le_of_ble_eq_true rfl) ?_
  intro p e s m below meth c ls hx hb hr hts hown hlocks hnm hml hC hM hS hl
  have hl : lv_has ls 2 [(0, .ref d1), (1, .ref d2)] := hl
  have hown : s.vm.findClass RX1 = some m.cls := hown
  have hin_wsX10 : ∀ w ∈ wsX10, w ∈ wsX1_meets := fun _ h => List.mem_cons_of_mem _ (List.mem_append_right _ h)
  have fl_13 := hts (.fieldLink RX1 13 "PlanningBench$Design" "x0" "I") (List.mem_of_getElem? (i := 1) rfl)
  have fl_19 := hts (.fieldLink RX1 19 "PlanningBench$Design" "x1" "I") (List.mem_of_getElem? (i := 2) rfl)
  have fl_16 := hts (.fieldLink RX1 16 "PlanningBench$Design" "y0" "I") (List.mem_of_getElem? (i := 3) rfl)
  have fl_22 := hts (.fieldLink RX1 22 "PlanningBench$Design" "y1" "I") (List.mem_of_getElem? (i := 4) rfl)
  obtain ⟨kd1, hD1⟩ := id g1
  obtain ⟨kd2, hD2⟩ := id g2
  refine lv_aload_n hx hb dX1_meets_0 rfl (lv_at hl 0 rfl) ?_
  refine va_get (D := G.1) (C := RX1) (T := TX1) (N := 7) (ci := 2) hx hb hts hin_wsX10 hown hC.1 (hM.one hD1) 0 rfl rfl 1 (by decide) fl_13 (fun _ z => z) rfl dX1_meets_1 ?_
  refine lv_aload_n hx hb dX1_meets_4 rfl (lv_at hl 1 rfl) ?_
  refine va_get (D := G.1) (C := RX1) (T := TX1) (N := 7) (ci := 2) hx hb hts hin_wsX10 hown hC.1 (hM.one hD2) 0 rfl rfl 3 (by decide) fl_19 (fun _ z => z) rfl dX1_meets_5 ?_
  refine lv_icmp_ge (tgt := 48) hx hb dX1_meets_8 (by decide) (fun c1 => ?_) (fun c1 => ?_)
  · have c1 := c1
    refine lv_iconst (v := (0 : Int32)) hx hb dX1_meets_48 (by decide) ?_
    exact mp_zret hx hb hr hlocks (Nat.le_of_ble_eq_true rfl) (Nat.le_of_ble_eq_true rfl) hM hS dX1_meets_49 (by first | rfl | exact bI_nar _) (⟨b0 (fun z => absurd z.1 (i_nlt.mpr c1)), rfl⟩)
  · have c1 := c1
    refine lv_aload_n hx hb dX1_meets_11 rfl (lv_at hl 1 rfl) ?_
    refine va_get (D := G.1) (C := RX1) (T := TX1) (N := 7) (ci := 2) hx hb hts hin_wsX10 hown hC.1 (hM.one hD2) 0 rfl rfl 1 (by decide) fl_13 (fun _ z => z) rfl dX1_meets_12 ?_
    refine lv_aload_n hx hb dX1_meets_15 rfl (lv_at hl 0 rfl) ?_
    refine va_get (D := G.1) (C := RX1) (T := TX1) (N := 7) (ci := 2) hx hb hts hin_wsX10 hown hC.1 (hM.one hD1) 0 rfl rfl 3 (by decide) fl_19 (fun _ z => z) rfl dX1_meets_16 ?_
    refine lv_icmp_ge (tgt := 48) hx hb dX1_meets_19 (by decide) (fun c3 => ?_) (fun c3 => ?_)
    · have c3 := c3
      refine lv_iconst (v := (0 : Int32)) hx hb dX1_meets_48 (by decide) ?_
      exact mp_zret hx hb hr hlocks (Nat.le_of_ble_eq_true rfl) (Nat.le_of_ble_eq_true rfl) hM hS dX1_meets_49 (by first | rfl | exact bI_nar _) (⟨b0 (fun z => absurd z.2.1 (i_nlt.mpr c3)), rfl⟩)
    · have c3 := c3
      refine lv_aload_n hx hb dX1_meets_22 rfl (lv_at hl 0 rfl) ?_
      refine va_get (D := G.1) (C := RX1) (T := TX1) (N := 7) (ci := 2) hx hb hts hin_wsX10 hown hC.1 (hM.one hD1) 0 rfl rfl 2 (by decide) fl_16 (fun _ z => z) rfl dX1_meets_23 ?_
      refine lv_aload_n hx hb dX1_meets_26 rfl (lv_at hl 1 rfl) ?_
      refine va_get (D := G.1) (C := RX1) (T := TX1) (N := 7) (ci := 2) hx hb hts hin_wsX10 hown hC.1 (hM.one hD2) 0 rfl rfl 4 (by decide) fl_22 (fun _ z => z) rfl dX1_meets_27 ?_
      refine lv_icmp_ge (tgt := 48) hx hb dX1_meets_30 (by decide) (fun c4 => ?_) (fun c4 => ?_)
      · have c4 := c4
        refine lv_iconst (v := (0 : Int32)) hx hb dX1_meets_48 (by decide) ?_
        exact mp_zret hx hb hr hlocks (Nat.le_of_ble_eq_true rfl) (Nat.le_of_ble_eq_true rfl) hM hS dX1_meets_49 (by first | rfl | exact bI_nar _) (⟨b0 (fun z => absurd z.2.2.1 (i_nlt.mpr c4)), rfl⟩)
      · have c4 := c4
        refine lv_aload_n hx hb dX1_meets_33 rfl (lv_at hl 1 rfl) ?_
        refine va_get (D := G.1) (C := RX1) (T := TX1) (N := 7) (ci := 2) hx hb hts hin_wsX10 hown hC.1 (hM.one hD2) 0 rfl rfl 2 (by decide) fl_16 (fun _ z => z) rfl dX1_meets_34 ?_
        refine lv_aload_n hx hb dX1_meets_37 rfl (lv_at hl 0 rfl) ?_
        refine va_get (D := G.1) (C := RX1) (T := TX1) (N := 7) (ci := 2) hx hb hts hin_wsX10 hown hC.1 (hM.one hD1) 0 rfl rfl 4 (by decide) fl_22 (fun _ z => z) rfl dX1_meets_38 ?_
        refine lv_icmp_ge (tgt := 48) hx hb dX1_meets_41 (by decide) (fun c5 => ?_) (fun c5 => ?_)
        · have c5 := c5
          refine lv_iconst (v := (0 : Int32)) hx hb dX1_meets_48 (by decide) ?_
          exact mp_zret hx hb hr hlocks (Nat.le_of_ble_eq_true rfl) (Nat.le_of_ble_eq_true rfl) hM hS dX1_meets_49 (by first | rfl | exact bI_nar _) (⟨b0 (fun z => absurd z.2.2.2 (i_nlt.mpr c5)), rfl⟩)
        · have c5 := c5
          refine lv_iconst (v := (1 : Int32)) hx hb dX1_meets_44 (by decide) ?_
          refine lv_goto (tgt := 49) hx hb dX1_meets_45 (by decide) ?_
          exact mp_zret hx hb hr hlocks (Nat.le_of_ble_eq_true rfl) (Nat.le_of_ble_eq_true rfl) hM hS dX1_meets_49 (by first | rfl | exact bI_nar _) (⟨b1 ⟨i_nle.mp c1, i_nle.mp c3, i_nle.mp c4, i_nle.mp c5⟩, rfl⟩)
abbrev rmX1_shades : Room := { frames := 0, cells := 0, slots := 0, locals := 0 }
set_option maxHeartbeats 4000000 in
set_option maxRecDepth 100000 in
theorem c_X1_shades (l : Launch) (X : mp_X) (G : mp_G) (A : Nat → Prop) (M : mp_M) (d1 : Nat) (D1 : ds_D) (g1 : DesAt M d1 D1) (d2 : Nat) (D2 : ds_D) (g2 : DesAt M d2 D2) (t : Int32) : mp_Met l X G A yX1_shades wsX1_shades rmX1_shades ([.ref d1, .ref d2, .int t] : List Value) M (fun v M1 => v = some (.int (bI (pB (0 < D1.2.2.2.2.2.1 * t / 10 ∧ D1.2.1 < D2.2.2.2.1 ∧ D2.2.1 < D1.2.2.2.1 ∧ D1.2.2.2.2.1 < D2.2.2.2.2.1 ∧ D2.2.2.1 < D1.2.2.2.2.1 + D1.2.2.2.2.2.1 * t / 10)))) ∧ M1 = M) 0 0 := by
  refine mp_ofW (cc := cX1_shades) (maxL := 4) (ret := (some .boolean)) (by decide) rfl (Nat.le_of_ble_eq_true rfl) ?_
  intro p e s m below meth c ls hx hb hr hts hown hlocks hnm hml hC hM hS hl
  have hl : lv_has ls 4 [(0, .ref d1), (1, .ref d2), (2, .int t)] := hl
  have hown : s.vm.findClass RX1 = some m.cls := hown
  have hin_wsX10 : ∀ w ∈ wsX10, w ∈ wsX1_shades := fun _ h => List.mem_cons_of_mem _ (List.mem_append_right _ h)
  have fl_25 := hts (.fieldLink RX1 25 "PlanningBench$Design" "height" "I") (List.mem_of_getElem? (i := 1) rfl)
  have fl_13 := hts (.fieldLink RX1 13 "PlanningBench$Design" "x0" "I") (List.mem_of_getElem? (i := 2) rfl)
  have fl_19 := hts (.fieldLink RX1 19 "PlanningBench$Design" "x1" "I") (List.mem_of_getElem? (i := 3) rfl)
  have fl_22 := hts (.fieldLink RX1 22 "PlanningBench$Design" "y1" "I") (List.mem_of_getElem? (i := 4) rfl)
  have fl_16 := hts (.fieldLink RX1 16 "PlanningBench$Design" "y0" "I") (List.mem_of_getElem? (i := 5) rfl)
  obtain ⟨kd1, hD1⟩ := id g1
  obtain ⟨kd2, hD2⟩ := id g2
  refine lv_aload_n hx hb dX1_shades_0 rfl (lv_at hl 0 rfl) ?_
  refine va_get (D := G.1) (C := RX1) (T := TX1) (N := 7) (ci := 2) hx hb hts hin_wsX10 hown hC.1 (hM.one hD1) 0 rfl rfl 5 (by decide) fl_25 (fun _ z => z) rfl dX1_shades_1 ?_
  refine lv_iload_n hx hb dX1_shades_4 rfl (lv_at hl 2 rfl) ?_
  refine lv_imul hx hb dX1_shades_5 ?_
  refine lv_bipush (v := (10 : Int32)) hx hb dX1_shades_6 (by decide) ?_
  refine lv_idiv hx hb dX1_shades_8 (by decide) ?_
  refine lv_istore_n (lv' := [(3, .int ((D1.2.2.2.2.2.1 * t) / (10 : Int32))), (0, .ref d1), (1, .ref d2), (2, .int t)]) hx hb dX1_shades_9 rfl hl (by decide) rfl (fun ls hl => ?_)
  refine lv_iload_n hx hb dX1_shades_10 rfl (lv_at hl 0 rfl) ?_
  refine lv_if_le (tgt := 64) hx hb dX1_shades_11 (by decide) (fun c1 => ?_) (fun c1 => ?_)
  · have c1 := c1
    refine lv_iconst (v := (0 : Int32)) hx hb dX1_shades_64 (by decide) ?_
    exact mp_zret hx hb hr hlocks (Nat.le_of_ble_eq_true rfl) (Nat.le_of_ble_eq_true rfl) hM hS dX1_shades_65 (by first | rfl | exact bI_nar _) (⟨b0 (fun z => absurd z.1 (i_nlt.mpr c1)), rfl⟩)
  · have c1 := c1
    refine lv_aload_n hx hb dX1_shades_14 rfl (lv_at hl 1 rfl) ?_
    refine va_get (D := G.1) (C := RX1) (T := TX1) (N := 7) (ci := 2) hx hb hts hin_wsX10 hown hC.1 (hM.one hD1) 0 rfl rfl 1 (by decide) fl_13 (fun _ z => z) rfl dX1_shades_15 ?_
    refine lv_aload_n hx hb dX1_shades_18 rfl (lv_at hl 2 rfl) ?_
    refine va_get (D := G.1) (C := RX1) (T := TX1) (N := 7) (ci := 2) hx hb hts hin_wsX10 hown hC.1 (hM.one hD2) 0 rfl rfl 3 (by decide) fl_19 (fun _ z => z) rfl dX1_shades_19 ?_
    refine lv_icmp_ge (tgt := 64) hx hb dX1_shades_22 (by decide) (fun c3 => ?_) (fun c3 => ?_)
    · have c3 := c3
      refine lv_iconst (v := (0 : Int32)) hx hb dX1_shades_64 (by decide) ?_
      exact mp_zret hx hb hr hlocks (Nat.le_of_ble_eq_true rfl) (Nat.le_of_ble_eq_true rfl) hM hS dX1_shades_65 (by first | rfl | exact bI_nar _) (⟨b0 (fun z => absurd z.2.1 (i_nlt.mpr c3)), rfl⟩)
    · have c3 := c3
      refine lv_aload_n hx hb dX1_shades_25 rfl (lv_at hl 2 rfl) ?_
      refine va_get (D := G.1) (C := RX1) (T := TX1) (N := 7) (ci := 2) hx hb hts hin_wsX10 hown hC.1 (hM.one hD2) 0 rfl rfl 1 (by decide) fl_13 (fun _ z => z) rfl dX1_shades_26 ?_
      refine lv_aload_n hx hb dX1_shades_29 rfl (lv_at hl 1 rfl) ?_
      refine va_get (D := G.1) (C := RX1) (T := TX1) (N := 7) (ci := 2) hx hb hts hin_wsX10 hown hC.1 (hM.one hD1) 0 rfl rfl 3 (by decide) fl_19 (fun _ z => z) rfl dX1_shades_30 ?_
      refine lv_icmp_ge (tgt := 64) hx hb dX1_shades_33 (by decide) (fun c4 => ?_) (fun c4 => ?_)
      · have c4 := c4
        refine lv_iconst (v := (0 : Int32)) hx hb dX1_shades_64 (by decide) ?_
        exact mp_zret hx hb hr hlocks (Nat.le_of_ble_eq_true rfl) (Nat.le_of_ble_eq_true rfl) hM hS dX1_shades_65 (by first | rfl | exact bI_nar _) (⟨b0 (fun z => absurd z.2.2.1 (i_nlt.mpr c4)), rfl⟩)
      · have c4 := c4
        refine lv_aload_n hx hb dX1_shades_36 rfl (lv_at hl 1 rfl) ?_
        refine va_get (D := G.1) (C := RX1) (T := TX1) (N := 7) (ci := 2) hx hb hts hin_wsX10 hown hC.1 (hM.one hD1) 0 rfl rfl 4 (by decide) fl_22 (fun _ z => z) rfl dX1_shades_37 ?_
        refine lv_aload_n hx hb dX1_shades_40 rfl (lv_at hl 2 rfl) ?_
        refine va_get (D := G.1) (C := RX1) (T := TX1) (N := 7) (ci := 2) hx hb hts hin_wsX10 hown hC.1 (hM.one hD2) 0 rfl rfl 4 (by decide) fl_22 (fun _ z => z) rfl dX1_shades_41 ?_
        refine lv_icmp_ge (tgt := 64) hx hb dX1_shades_44 (by decide) (fun c5 => ?_) (fun c5 => ?_)
        · have c5 := c5
          refine lv_iconst (v := (0 : Int32)) hx hb dX1_shades_64 (by decide) ?_
          exact mp_zret hx hb hr hlocks (Nat.le_of_ble_eq_true rfl) (Nat.le_of_ble_eq_true rfl) hM hS dX1_shades_65 (by first | rfl | exact bI_nar _) (⟨b0 (fun z => absurd z.2.2.2.1 (i_nlt.mpr c5)), rfl⟩)
        · have c5 := c5
          refine lv_aload_n hx hb dX1_shades_47 rfl (lv_at hl 2 rfl) ?_
          refine va_get (D := G.1) (C := RX1) (T := TX1) (N := 7) (ci := 2) hx hb hts hin_wsX10 hown hC.1 (hM.one hD2) 0 rfl rfl 2 (by decide) fl_16 (fun _ z => z) rfl dX1_shades_48 ?_
          refine lv_aload_n hx hb dX1_shades_51 rfl (lv_at hl 1 rfl) ?_
          refine va_get (D := G.1) (C := RX1) (T := TX1) (N := 7) (ci := 2) hx hb hts hin_wsX10 hown hC.1 (hM.one hD1) 0 rfl rfl 4 (by decide) fl_22 (fun _ z => z) rfl dX1_shades_52 ?_
          refine lv_iload_n hx hb dX1_shades_55 rfl (lv_at hl 0 rfl) ?_
          refine lv_iadd hx hb dX1_shades_56 ?_
          refine lv_icmp_ge (tgt := 64) hx hb dX1_shades_57 (by decide) (fun c6 => ?_) (fun c6 => ?_)
          · have c6 := c6
            refine lv_iconst (v := (0 : Int32)) hx hb dX1_shades_64 (by decide) ?_
            exact mp_zret hx hb hr hlocks (Nat.le_of_ble_eq_true rfl) (Nat.le_of_ble_eq_true rfl) hM hS dX1_shades_65 (by first | rfl | exact bI_nar _) (⟨b0 (fun z => absurd z.2.2.2.2 (i_nlt.mpr c6)), rfl⟩)
          · have c6 := c6
            refine lv_iconst (v := (1 : Int32)) hx hb dX1_shades_60 (by decide) ?_
            refine lv_goto (tgt := 65) hx hb dX1_shades_61 (by decide) ?_
            exact mp_zret hx hb hr hlocks (Nat.le_of_ble_eq_true rfl) (Nat.le_of_ble_eq_true rfl) hM hS dX1_shades_65 (by first | rfl | exact bI_nar _) (⟨b1 ⟨i_nle.mp c1, i_nle.mp c3, i_nle.mp c4, i_nle.mp c5, i_nle.mp c6⟩, rfl⟩)
