/-! ===== the reference's object is made ===== -/
def md_fs2 (ad : Nat → Option Nat) (n : Nat → Int32) : List Value := (List.range 45).map (fun k => if (md_arr k).isSome then va_rf (ad k) else .int (n k))
def md_M2 (G : mp_G) (B : mp_M) (h : Nat) (ad : Nat → Option Nat) (n : Nat → Int32) : mp_M := fun q =>
  if q = (9, 0, 0) then some (h, .inr (9, md_fs2 ad n)) else if q.1 = 9 ∧ q.2.1 = 1 then (match md_arr q.2.2, ad q.2.2 with | some x, some a => some (a, .inl (md_cls G x.1, x.2, .inl (fun _ => 0))) | _, _ => B q) else B q
theorem md_len2 (ad : Nat → Option Nat) (n : Nat → Int32) : (md_fs2 ad n).length = 45 := by simp [md_fs2]
theorem md_at2 (ad : Nat → Option Nat) (n : Nat → Int32) {k : Nat} (hk : k < 45) : (md_fs2 ad n)[k]? = some (if (md_arr k).isSome then va_rf (ad k) else .int (n k)) := by
  simp [md_fs2, List.getElem?_range hk]
theorem md_setr (ad : Nat → Option Nat) (n : Nat → Int32) {k : Nat} {x : Nat × Nat} (hk : k < 45) (h : md_arr k = some x) (a : Nat) : (md_fs2 ad n).set k (.ref a) = md_fs2 (va_up ad k (some a)) n := by
  apply List.ext_getElem?
  intro i
  by_cases hi : i < 45
  · by_cases hik : i = k
    · subst hik
      rw [List.getElem?_set_self (by rw [md_len2]; exact hi), md_at2 _ _ hi, h]
      simp [va_up, va_rf]
    · rw [List.getElem?_set_ne (Ne.symm hik), md_at2 ad n hi, md_at2 _ n hi, va_up_ne _ _ hik]
  · rw [List.getElem?_eq_none (by rw [List.length_set, md_len2]; omega), List.getElem?_eq_none (by rw [md_len2]; omega)]
theorem md_seti (ad : Nat → Option Nat) (n : Nat → Int32) {k : Nat} (hk : k < 45) (h : md_arr k = none) (v : Int32) : (md_fs2 ad n).set k (.int v) = md_fs2 ad (upd n k v) := by
  apply List.ext_getElem?
  intro i
  by_cases hi : i < 45
  · by_cases hik : i = k
    · subst hik
      rw [List.getElem?_set_self (by rw [md_len2]; exact hi), md_at2 _ _ hi, h]
      simp [upd]
    · rw [List.getElem?_set_ne (Ne.symm hik), md_at2 ad n hi, md_at2 ad _ hi]
      simp [upd, hik]
  · rw [List.getElem?_eq_none (by rw [List.length_set, md_len2]; omega), List.getElem?_eq_none (by rw [md_len2]; omega)]
theorem md_obj2 (G : mp_G) (B : mp_M) (h : Nat) (ad : Nat → Option Nat) (n : Nat → Int32) : md_M2 G B h ad n (9, 0, 0) = some (h, .inr (9, md_fs2 ad n)) := if_pos rfl
theorem md_obj2_set (G : mp_G) (B : mp_M) (h : Nat) (ad : Nat → Option Nat) (n n' : Nat → Int32) : mp_set (md_M2 G B h ad n) (9, 0, 0) (h, .inr (9, md_fs2 ad n')) = md_M2 G B h ad n' := by
  funext q
  by_cases hq : q = (9, 0, 0)
  · subst hq
    rw [mp_set_s, md_obj2]
  · rw [mp_set_n _ _ _ hq]
    simp only [md_M2, if_neg hq]
theorem md_mk_set (G : mp_G) (B : mp_M) (h : Nat) (ad : Nat → Option Nat) (n : Nat → Int32) {k t len q0 : Nat} (hk : md_arr k = some (t, len)) : mp_set (mp_set (md_M2 G B h ad n) (9, 1, k) (q0, .inl (md_cls G t, len, .inl (fun _ => 0)))) (9, 0, 0) (h, .inr (9, md_fs2 (va_up ad k (some q0)) n)) = md_M2 G B h (va_up ad k (some q0)) n := by
  funext q
  by_cases hq : q = (9, 0, 0)
  · subst hq
    rw [mp_set_s, md_obj2]
  · rw [mp_set_n _ _ _ hq]
    obtain ⟨q1, q2, q3⟩ := q
    by_cases h1 : q1 = 9 ∧ q2 = 1
    · obtain ⟨rfl, rfl⟩ := h1
      by_cases h3 : q3 = k
      · subst h3
        rw [mp_set_s]
        simp only [md_M2, if_neg hq, hk, and_self, if_true, va_up_self]
      · rw [mp_set_n _ _ _ (fun z => h3 (by simpa using z))]
        simp only [md_M2, if_neg hq, va_up_ne _ _ h3]
    · rw [mp_set_n _ _ _ (fun z => h1 (by simp at z; exact ⟨z.1, z.2.1⟩))]
      simp only [md_M2, if_neg hq, if_neg h1]
section MDK
variable {p : Program} {l : Launch} {e : Env} {R : Room} {s : State} {m : MethodId} {args : Array Value} {below : List Frame} {meth : Method} {c : Code} {H : Heap} {locs : List Loc} {cells slots : Nat} {Q : State → Prop}
variable {cc : ByteArray} {pc : Nat} {ls : Array Slot} {rest : List Value} {X : mp_X} {G : mp_G} {A : Nat → Prop} {B : mp_M} {h : Nat} {ad : Nat → Option Nat} {n : Nat → Int32} {Ts : List Cond} {index : Nat}
theorem md_mk (hx : p.tables.exec = Jvm.exec) (hb : c.code = cc) (hts : ∀ w ∈ Ts, w.before args s = true) (hin : ∀ w ∈ wsX80, w ∈ Ts) (hown : s.vm.findClass RX8 = some m.cls) (hC : mp_C X G A s s.heap) (hM : mp_P G.1 A (md_M2 G B h ad n) H) (hS : va_S A s.heap H locs) (hnm : meth.name = "<init>")
    (k : Nat) (hk : k < 45) {t len : Nat} (ha : md_arr k = some (t, len)) (had : ad k = none) (hB : B (9, 1, k) = none) {atype : ArrayType} {ty : FieldType} (harr : (Cond.arrayClass (newarray.typeOf atype)).before args s = true) (hty : newarray.typeOf atype = ty) (ht : (mp_tys G)[t]? = some (md_cls G t, ty)) (hRA : ∀ cA, va_RA s cA ty = (s.vm.findClass ("[" ++ ty.toString) = some cA)) (hd0 : defaultValue ty = .int 0) {v : Int32} (hv : v = nI len) (hl9 : len < 2 ^ 31) (hbytes : len * componentBytes ty ≤ 536870912)
    (hfin : (TX8 k).2.2.2 = true) (hdecl : (TX8 k).1 = RX8) (hn : ∀ a : Nat, narrow (tyX8 k) (.ref a) = .ref a) (hfit : ∀ a : Nat, fits (tyX8 k) (.ref a) = true) (hlink : (Cond.fieldLink RX8 index (TX8 k).1 (TX8 k).2.1 (TX8 k).2.2.1).before args s = true)
    (hcells : cells + 1 ≤ R.cells) (hslots : slots + len ≤ R.slots) (hd1 : decode cc pc = .ok (.newarray atype, 2)) (hd2 : decode cc (pc + 2) = .ok (.putfield index, 3))
    (kk : ∀ (q : Nat) (H1 : Heap) (locs1 : List Loc), mp_P G.1 A (md_M2 G B h (va_up ad k (some q)) n) H1 → va_S A s.heap H1 locs1 → W p l e R s m args below meth c H1 locs1 (cells + 1) (slots + len) Q (F0 m (pc + 2 + 3) ls rest)) : W p l e R s m args below meth c H locs cells slots Q (F0 m pc ls (.int v :: .ref h :: rest)) := by
  subst hv
  have hk0 : md_M2 G B h ad n (9, 1, k) = none := by
    have h1 : ¬ ((9, 1, k) : mp_N) = (9, 0, 0) := fun q => by simp at q
    simp only [md_M2, if_neg h1, ha, had, and_self, if_true, hB]
  refine mp_newa hx hb harr hty hC.1 hM hS hC.2.2.2 t ht (hRA _) (a0 := (len, .inl (fun _ => 0))) (fun cA => by rw [vp_cell_i, hd0]) (nI_pos hl9) (nI_clamp hl9) hbytes hcells hslots hd1 hk0 (fun q H1 hM1 hS1 => ?_)
  have ho : mp_set (md_M2 G B h ad n) (9, 1, k) (q, .inl (md_cls G t, len, .inl (fun _ => 0))) (9, 0, 0) = some (h, .inr (9, md_fs2 ad n)) := by
    rw [mp_set_n _ _ _ (fun z => by simp at z)]
    exact md_obj2 G B h ad n
  refine mp_putF (C := RX8) (T := TX8) (N := 45) (ci := 9) hx hb hts hin tyX8 tyX8_ok nmX8 hown hC.1 hM1 hS1 ho rfl k hk hlink (fun _ z => z) hfin hnm hdecl (hn q) (hfit q) (by rw [md_len2]; exact hk) hd2 (md_setr ad n hk ha q) (fun H2 locs2 hM2 hS2 => ?_)
  rw [md_mk_set G B h ad n ha] at hM2
  exact kk q H2 locs2 hM2 hS2
theorem md_mk1 (hx : p.tables.exec = Jvm.exec) (hb : c.code = cc) (hts : ∀ w ∈ Ts, w.before args s = true) (hin : ∀ w ∈ wsX80, w ∈ Ts) (hown : s.vm.findClass RX8 = some m.cls) (hC : mp_C X G A s s.heap) (hM : mp_P G.1 A (md_M2 G B h ad n) H) (hS : va_S A s.heap H locs) (hnm : meth.name = "<init>")
    {K : Nat} (hN : ∀ j, K ≤ j → ad j = none) (hO : ∀ j, j < K → (md_arr j).isSome = true → (ad j).isSome = true) (k : Nat) (hK : K ≤ k) (hg : ∀ j, K ≤ j → j < k → md_arr j = none) (hk : k < 45) {t len : Nat} (ha : md_arr k = some (t, len)) (hB : B (9, 1, k) = none) {atype : ArrayType} {ty : FieldType} (harr : (Cond.arrayClass (newarray.typeOf atype)).before args s = true) (hty : newarray.typeOf atype = ty) (ht : (mp_tys G)[t]? = some (md_cls G t, ty)) (hRA : ∀ cA, va_RA s cA ty = (s.vm.findClass ("[" ++ ty.toString) = some cA)) (hd0 : defaultValue ty = .int 0) {v : Int32} (hv : v = nI len) (hl9 : len < 2 ^ 31) (hbytes : len * componentBytes ty ≤ 536870912)
    (hfin : (TX8 k).2.2.2 = true) (hdecl : (TX8 k).1 = RX8) (hn : ∀ a : Nat, narrow (tyX8 k) (.ref a) = .ref a) (hfit : ∀ a : Nat, fits (tyX8 k) (.ref a) = true) (hlink : (Cond.fieldLink RX8 index (TX8 k).1 (TX8 k).2.1 (TX8 k).2.2.1).before args s = true)
    (hcells : cells + 1 ≤ R.cells) (hslots : slots + len ≤ R.slots) (hd1 : decode cc pc = .ok (.newarray atype, 2)) (hd2 : decode cc (pc + 2) = .ok (.putfield index, 3)) {c2 s2 p2 : Nat} (hc2 : cells + 1 = c2) (hs2 : slots + len = s2) (hp2 : pc + 2 + 3 = p2)
    (kk : ∀ (ad2 : Nat → Option Nat) (H1 : Heap) (locs1 : List Loc), (∀ j, k + 1 ≤ j → ad2 j = none) → (∀ j, j < k + 1 → (md_arr j).isSome = true → (ad2 j).isSome = true) → mp_P G.1 A (md_M2 G B h ad2 n) H1 → va_S A s.heap H1 locs1 → W p l e R s m args below meth c H1 locs1 c2 s2 Q (F0 m p2 ls rest)) : W p l e R s m args below meth c H locs cells slots Q (F0 m pc ls (.int v :: .ref h :: rest)) := by
  subst hc2; subst hs2; subst hp2
  refine md_mk hx hb hts hin hown hC hM hS hnm k hk ha (hN k hK) hB harr hty ht hRA hd0 hv hl9 hbytes hfin hdecl hn hfit hlink hcells hslots hd1 hd2 (fun q H1 locs1 hM1 hS1 => kk _ H1 locs1 (fun j hj => ?_) (fun j hj hj2 => ?_) hM1 hS1)
  · rw [va_up_ne _ _ (by omega)]
    exact hN j (by omega)
  · by_cases e : j = k
    · subst e
      rw [va_up_self]
      rfl
    · rw [va_up_ne _ _ e]
      by_cases e2 : j < K
      · exact hO j e2 hj2
      · rw [hg j (by omega) (by omega)] at hj2
        cases hj2
theorem md_puti2 (hx : p.tables.exec = Jvm.exec) (hb : c.code = cc) (hts : ∀ w ∈ Ts, w.before args s = true) (hin : ∀ w ∈ wsX80, w ∈ Ts) (hown : s.vm.findClass RX8 = some m.cls) (hC : mp_C X G A s s.heap) (hM : mp_P G.1 A (md_M2 G B h ad n) H) (hS : va_S A s.heap H locs) (k : Nat) (hk : k < 45) (ha : md_arr k = none) (hfin : (TX8 k).2.2.2 = false) (hty : tyX8 k = .int) (hlink : (Cond.fieldLink RX8 index (TX8 k).1 (TX8 k).2.1 (TX8 k).2.2.1).before args s = true) (hdg : decode cc pc = .ok (.putfield index, 3)) {v : Int32}
    (kk : ∀ (H1 : Heap) (locs1 : List Loc), mp_P G.1 A (md_M2 G B h ad (upd n k v)) H1 → va_S A s.heap H1 locs1 → W p l e R s m args below meth c H1 locs1 cells slots Q (F0 m (pc + 3) ls rest)) : W p l e R s m args below meth c H locs cells slots Q (F0 m pc ls (.int v :: .ref h :: rest)) := by
  refine mp_put (C := RX8) (T := TX8) (N := 45) (ci := 9) hx hb hts hin tyX8 tyX8_ok nmX8 hown hC.1 hM hS (md_obj2 G B h ad n) rfl k hk hlink (fun _ q => q) hfin (by rw [hty]; rfl) (by rw [hty]; rfl) (by rw [md_len2]; exact hk) hdg (md_seti ad n hk ha v) (fun H1 locs1 h1 h2 => ?_)
  rw [md_obj2_set] at h1
  exact kk H1 locs1 h1 h2
end MDK
def md_n0 : Nat → Int32 := upd (fun _ => 0) 14 (-1)
def md_f0 : Nat → Nat → Int32 := fun _ _ => 0
theorem md_M2_done (G : mp_G) (B : mp_M) (h : Nat) (ad : Nat → Option Nat) (n : Nat → Int32) (had : ∀ k, (md_arr k).isSome = true → (ad k).isSome = true) : ∃ ad' : Nat → Nat, md_M2 G B h ad n = md_M G B h ad' n md_f0 := by
  refine ⟨fun k => (ad k).getD 0, ?_⟩
  have e : md_fs2 ad n = md_fs (fun k => (ad k).getD 0) n := by
    apply List.ext_getElem?
    intro i
    by_cases hi : i < 45
    · rw [md_at2 ad n hi, md_at _ n hi]
      by_cases ha : (md_arr i).isSome = true
      · rw [if_pos ha, if_pos ha]
        have := had i ha
        cases hq : ad i with
        | none => rw [hq] at this; cases this
        | some a => rfl
      · rw [if_neg ha, if_neg ha]
    · rw [List.getElem?_eq_none (by rw [md_len2]; omega), List.getElem?_eq_none (by rw [md_len]; omega)]
  funext q
  by_cases hq : q = (9, 0, 0)
  · subst hq
    rw [md_obj2, md_obj, e]
  · simp only [md_M2, md_M, if_neg hq]
    by_cases h1 : q.1 = 9 ∧ q.2.1 = 1
    · rw [if_pos h1, if_pos h1]
      cases ha : md_arr q.2.2 with
      | none => rfl
      | some x =>
        have := had q.2.2 (by rw [ha]; rfl)
        cases hq2 : ad q.2.2 with
        | none => rw [hq2] at this; cases this
        | some a => rfl
    · rw [if_neg h1, if_neg h1]
theorem md_arr_big {k : Nat} (h : 45 ≤ k) : md_arr k = none := by
  unfold md_arr
  split <;> first | rfl | omega
abbrev rmX8_init : Room := { frames := 1, cells := 33, slots := 4050, locals := 12 }
set_option maxHeartbeats 4000000 in
set_option maxRecDepth 100000 in
theorem c_X8_init (l : Launch) (X : mp_X) (G : mp_G) (A : Nat → Prop) (B : mp_M) (h : Nat) (hB : ∀ k, B (9, 1, k) = none) : mp_Met l X G A yX8_init wsX8_init rmX8_init ([.ref h] : List Value) (md_M2 G B h (fun _ => none) (fun _ => 0)) (fun v1 M1 => v1 = none ∧ ∃ ad, M1 = md_M G B h ad md_n0 md_f0) 33 4050 := by
  refine mp_ofW (cc := cX8_init) (maxL := 1) (ret := none) (by decide) rfl (Nat.le_of_ble_eq_true rfl) ?_
  intro p e s m below meth c ls hx hb hr hts hown hlocks hnm hml hC hM hS hl
  have hl : lv_has ls 1 [(0, .ref h)] := hl
  have hown : s.vm.findClass RX8 = some m.cls := hown
  have oi_l := hts (.methodLink RX8 1 objectInit) (List.mem_of_getElem? (i := 1) rfl)
  have oi_i := hts (.instanceMethod objectInit) (List.mem_of_getElem? (i := 2) rfl)
  have oi_c := hts (.code objectInit ⟨#[0xb1]⟩ 1 none) (List.mem_of_getElem? (i := 3) rfl)
  have fl_7 := hts (.fieldLink RX8 7 "PlanningBenchModel" "corners" "[I") (List.mem_of_getElem? (i := 5) rfl)
  have hin_wsX80 : ∀ w ∈ wsX80, w ∈ wsX8_init := fun _ h => List.mem_cons_of_mem _ (List.mem_append_right _ h)
  have ac_int := hts (.arrayClass .int) (List.mem_of_getElem? (i := 4) rfl)
  have fl_13 := hts (.fieldLink RX8 13 "PlanningBenchModel" "xs" "[I") (List.mem_of_getElem? (i := 6) rfl)
  have fl_16 := hts (.fieldLink RX8 16 "PlanningBenchModel" "ys" "[I") (List.mem_of_getElem? (i := 7) rfl)
  have fl_19 := hts (.fieldLink RX8 19 "PlanningBenchModel" "tape" "[B") (List.mem_of_getElem? (i := 9) rfl)
  have ac_byte := hts (.arrayClass .byte) (List.mem_of_getElem? (i := 8) rfl)
  have fl_23 := hts (.fieldLink RX8 23 "PlanningBenchModel" "text" "[B") (List.mem_of_getElem? (i := 10) rfl)
  have fl_26 := hts (.fieldLink RX8 26 "PlanningBenchModel" "fault" "I") (List.mem_of_getElem? (i := 11) rfl)
  have fl_30 := hts (.fieldLink RX8 30 "PlanningBenchModel" "planFrom" "[I") (List.mem_of_getElem? (i := 12) rfl)
  have fl_33 := hts (.fieldLink RX8 33 "PlanningBenchModel" "planKnown" "[I") (List.mem_of_getElem? (i := 13) rfl)
  have fl_36 := hts (.fieldLink RX8 36 "PlanningBenchModel" "zoneMany" "[I") (List.mem_of_getElem? (i := 14) rfl)
  have fl_39 := hts (.fieldLink RX8 39 "PlanningBenchModel" "zonePlots" "[I") (List.mem_of_getElem? (i := 15) rfl)
  have fl_42 := hts (.fieldLink RX8 42 "PlanningBenchModel" "zoneUses" "[I") (List.mem_of_getElem? (i := 16) rfl)
  have fl_45 := hts (.fieldLink RX8 45 "PlanningBenchModel" "zoneNumber" "[I") (List.mem_of_getElem? (i := 17) rfl)
  have fl_48 := hts (.fieldLink RX8 48 "PlanningBenchModel" "onPlot" "[I") (List.mem_of_getElem? (i := 18) rfl)
  have fl_51 := hts (.fieldLink RX8 51 "PlanningBenchModel" "x0s" "[I") (List.mem_of_getElem? (i := 19) rfl)
  have fl_54 := hts (.fieldLink RX8 54 "PlanningBenchModel" "y0s" "[I") (List.mem_of_getElem? (i := 20) rfl)
  have fl_57 := hts (.fieldLink RX8 57 "PlanningBenchModel" "x1s" "[I") (List.mem_of_getElem? (i := 21) rfl)
  have fl_60 := hts (.fieldLink RX8 60 "PlanningBenchModel" "y1s" "[I") (List.mem_of_getElem? (i := 22) rfl)
  have fl_63 := hts (.fieldLink RX8 63 "PlanningBenchModel" "heights" "[I") (List.mem_of_getElem? (i := 23) rfl)
  have fl_66 := hts (.fieldLink RX8 66 "PlanningBenchModel" "uses" "[I") (List.mem_of_getElem? (i := 24) rfl)
  have fl_69 := hts (.fieldLink RX8 69 "PlanningBenchModel" "since" "[I") (List.mem_of_getElem? (i := 25) rfl)
  have fl_72 := hts (.fieldLink RX8 72 "PlanningBenchModel" "how" "[I") (List.mem_of_getElem? (i := 26) rfl)
  have fl_75 := hts (.fieldLink RX8 75 "PlanningBenchModel" "refusedBy" "[I") (List.mem_of_getElem? (i := 27) rfl)
  have fl_78 := hts (.fieldLink RX8 78 "PlanningBenchModel" "weight" "[I") (List.mem_of_getElem? (i := 28) rfl)
  have fl_81 := hts (.fieldLink RX8 81 "PlanningBenchModel" "decided" "[I") (List.mem_of_getElem? (i := 29) rfl)
  have fl_84 := hts (.fieldLink RX8 84 "PlanningBenchModel" "begun" "[I") (List.mem_of_getElem? (i := 30) rfl)
  have fl_87 := hts (.fieldLink RX8 87 "PlanningBenchModel" "done" "[I") (List.mem_of_getElem? (i := 31) rfl)
  have fl_90 := hts (.fieldLink RX8 90 "PlanningBenchModel" "razed" "[I") (List.mem_of_getElem? (i := 32) rfl)
  have fl_93 := hts (.fieldLink RX8 93 "PlanningBenchModel" "razeKnown" "[I") (List.mem_of_getElem? (i := 33) rfl)
  have fl_96 := hts (.fieldLink RX8 96 "PlanningBenchModel" "isAppealed" "[Z") (List.mem_of_getElem? (i := 35) rfl)
  have ac_boolean := hts (.arrayClass .boolean) (List.mem_of_getElem? (i := 34) rfl)
  have fl_100 := hts (.fieldLink RX8 100 "PlanningBenchModel" "hasObjected" "[Z") (List.mem_of_getElem? (i := 36) rfl)
  have fl_103 := hts (.fieldLink RX8 103 "PlanningBenchModel" "heldPlot" "[I") (List.mem_of_getElem? (i := 37) rfl)
  have fl_106 := hts (.fieldLink RX8 106 "PlanningBenchModel" "heldBy" "[I") (List.mem_of_getElem? (i := 38) rfl)
  have fl_109 := hts (.fieldLink RX8 109 "PlanningBenchModel" "heldFrom" "[I") (List.mem_of_getElem? (i := 39) rfl)
  have fl_112 := hts (.fieldLink RX8 112 "PlanningBenchModel" "heldKnown" "[I") (List.mem_of_getElem? (i := 40) rfl)
  have hN : ∀ j, 0 ≤ j → (fun _ => none : Nat → Option Nat) j = none := fun _ _ => rfl
  have hO : ∀ j, j < 0 → (md_arr j).isSome = true → ((fun _ => none : Nat → Option Nat) j).isSome = true := fun j hj => absurd hj (Nat.not_lt_zero j)
  refine lv_aload_n hx hb dX8_init_0 rfl (lv_at hl 0 rfl) ?_
  refine W.objInit hx hb hown oi_l oi_i oi_c rfl (hl.1.trans hml.symm) rfl dX8_init_1 (Nat.le_of_ble_eq_true rfl) (Nat.le_of_ble_eq_true rfl) ?_
  refine lv_aload_n hx hb dX8_init_4 rfl (lv_at hl 0 rfl) ?_
  refine lv_bipush (v := (13 : Int32)) hx hb dX8_init_5 (by decide) ?_
  refine md_mk1 hx hb hts hin_wsX80 hown hC hM hS hnm hN hO 6 (by decide) (fun j h1 h2 => by rcases (show j = 0 ∨ j = 1 ∨ j = 2 ∨ j = 3 ∨ j = 4 ∨ j = 5 by omega) with rfl | rfl | rfl | rfl | rfl | rfl <;> rfl) (by decide) rfl (hB 6) (atype := .int) (ty := .int) ac_int rfl rfl (fun _ => rfl) rfl (by rfl) (by decide) (by decide) rfl rfl (fun _ => rfl) (fun _ => rfl) fl_7 (Nat.le_of_ble_eq_true rfl) (Nat.le_of_ble_eq_true rfl) dX8_init_7 dX8_init_9 (c2 := 1) (s2 := 13) (p2 := 12) rfl rfl rfl (fun ad H locs hN hO hM hS => ?_)
  refine lv_aload_n hx hb dX8_init_12 rfl (lv_at hl 0 rfl) ?_
  refine lv_bipush (v := (104 : Int32)) hx hb dX8_init_13 (by decide) ?_
  refine md_mk1 hx hb hts hin_wsX80 hown hC hM hS hnm hN hO 7 (by decide) (fun j h1 h2 => absurd h1 (by omega)) (by decide) rfl (hB 7) (atype := .int) (ty := .int) ac_int rfl rfl (fun _ => rfl) rfl (by rfl) (by decide) (by decide) rfl rfl (fun _ => rfl) (fun _ => rfl) fl_13 (Nat.le_of_ble_eq_true rfl) (Nat.le_of_ble_eq_true rfl) dX8_init_15 dX8_init_17 (c2 := 2) (s2 := 117) (p2 := 20) rfl rfl rfl (fun ad H locs hN hO hM hS => ?_)
  refine lv_aload_n hx hb dX8_init_20 rfl (lv_at hl 0 rfl) ?_
  refine lv_bipush (v := (104 : Int32)) hx hb dX8_init_21 (by decide) ?_
  refine md_mk1 hx hb hts hin_wsX80 hown hC hM hS hnm hN hO 8 (by decide) (fun j h1 h2 => absurd h1 (by omega)) (by decide) rfl (hB 8) (atype := .int) (ty := .int) ac_int rfl rfl (fun _ => rfl) rfl (by rfl) (by decide) (by decide) rfl rfl (fun _ => rfl) (fun _ => rfl) fl_16 (Nat.le_of_ble_eq_true rfl) (Nat.le_of_ble_eq_true rfl) dX8_init_23 dX8_init_25 (c2 := 3) (s2 := 221) (p2 := 28) rfl rfl rfl (fun ad H locs hN hO hM hS => ?_)
  refine lv_aload_n hx hb dX8_init_28 rfl (lv_at hl 0 rfl) ?_
  refine lv_sipush (v := (600 : Int32)) hx hb dX8_init_29 (by decide) ?_
  refine md_mk1 hx hb hts hin_wsX80 hown hC hM hS hnm hN hO 9 (by decide) (fun j h1 h2 => absurd h1 (by omega)) (by decide) rfl (hB 9) (atype := .byte) (ty := .byte) ac_byte rfl rfl (fun _ => rfl) rfl (by rfl) (by decide) (by decide) rfl rfl (fun _ => rfl) (fun _ => rfl) fl_19 (Nat.le_of_ble_eq_true rfl) (Nat.le_of_ble_eq_true rfl) dX8_init_32 dX8_init_34 (c2 := 4) (s2 := 821) (p2 := 37) rfl rfl rfl (fun ad H locs hN hO hM hS => ?_)
  refine lv_aload_n hx hb dX8_init_37 rfl (lv_at hl 0 rfl) ?_
  refine lv_sipush (v := (600 : Int32)) hx hb dX8_init_38 (by decide) ?_
  refine md_mk1 hx hb hts hin_wsX80 hown hC hM hS hnm hN hO 10 (by decide) (fun j h1 h2 => absurd h1 (by omega)) (by decide) rfl (hB 10) (atype := .byte) (ty := .byte) ac_byte rfl rfl (fun _ => rfl) rfl (by rfl) (by decide) (by decide) rfl rfl (fun _ => rfl) (fun _ => rfl) fl_23 (Nat.le_of_ble_eq_true rfl) (Nat.le_of_ble_eq_true rfl) dX8_init_41 dX8_init_43 (c2 := 5) (s2 := 1421) (p2 := 46) rfl rfl rfl (fun ad H locs hN hO hM hS => ?_)
  refine lv_aload_n hx hb dX8_init_46 rfl (lv_at hl 0 rfl) ?_
  refine lv_iconst (v := (-1 : Int32)) hx hb dX8_init_47 (by decide) ?_
  refine md_puti2 hx hb hts hin_wsX80 hown hC hM hS 14 (by decide) rfl rfl rfl fl_26 dX8_init_48 (fun H locs hM hS => ?_)
  refine lv_aload_n hx hb dX8_init_51 rfl (lv_at hl 0 rfl) ?_
  refine lv_bipush (v := (20 : Int32)) hx hb dX8_init_52 (by decide) ?_
  refine md_mk1 hx hb hts hin_wsX80 hown hC hM hS hnm hN hO 15 (by decide) (fun j h1 h2 => by rcases (show j = 11 ∨ j = 12 ∨ j = 13 ∨ j = 14 by omega) with rfl | rfl | rfl | rfl <;> rfl) (by decide) rfl (hB 15) (atype := .int) (ty := .int) ac_int rfl rfl (fun _ => rfl) rfl (by rfl) (by decide) (by decide) rfl rfl (fun _ => rfl) (fun _ => rfl) fl_30 (Nat.le_of_ble_eq_true rfl) (Nat.le_of_ble_eq_true rfl) dX8_init_54 dX8_init_56 (c2 := 6) (s2 := 1441) (p2 := 59) rfl rfl rfl (fun ad H locs hN hO hM hS => ?_)
  refine lv_aload_n hx hb dX8_init_59 rfl (lv_at hl 0 rfl) ?_
  refine lv_bipush (v := (20 : Int32)) hx hb dX8_init_60 (by decide) ?_
  refine md_mk1 hx hb hts hin_wsX80 hown hC hM hS hnm hN hO 16 (by decide) (fun j h1 h2 => absurd h1 (by omega)) (by decide) rfl (hB 16) (atype := .int) (ty := .int) ac_int rfl rfl (fun _ => rfl) rfl (by rfl) (by decide) (by decide) rfl rfl (fun _ => rfl) (fun _ => rfl) fl_33 (Nat.le_of_ble_eq_true rfl) (Nat.le_of_ble_eq_true rfl) dX8_init_62 dX8_init_64 (c2 := 7) (s2 := 1461) (p2 := 67) rfl rfl rfl (fun ad H locs hN hO hM hS => ?_)
  refine lv_aload_n hx hb dX8_init_67 rfl (lv_at hl 0 rfl) ?_
  refine lv_bipush (v := (21 : Int32)) hx hb dX8_init_68 (by decide) ?_
  refine md_mk1 hx hb hts hin_wsX80 hown hC hM hS hnm hN hO 17 (by decide) (fun j h1 h2 => absurd h1 (by omega)) (by decide) rfl (hB 17) (atype := .int) (ty := .int) ac_int rfl rfl (fun _ => rfl) rfl (by rfl) (by decide) (by decide) rfl rfl (fun _ => rfl) (fun _ => rfl) fl_36 (Nat.le_of_ble_eq_true rfl) (Nat.le_of_ble_eq_true rfl) dX8_init_70 dX8_init_72 (c2 := 8) (s2 := 1482) (p2 := 75) rfl rfl rfl (fun ad H locs hN hO hM hS => ?_)
  refine lv_aload_n hx hb dX8_init_75 rfl (lv_at hl 0 rfl) ?_
  refine lv_sipush (v := (168 : Int32)) hx hb dX8_init_76 (by decide) ?_
  refine md_mk1 hx hb hts hin_wsX80 hown hC hM hS hnm hN hO 18 (by decide) (fun j h1 h2 => absurd h1 (by omega)) (by decide) rfl (hB 18) (atype := .int) (ty := .int) ac_int rfl rfl (fun _ => rfl) rfl (by rfl) (by decide) (by decide) rfl rfl (fun _ => rfl) (fun _ => rfl) fl_39 (Nat.le_of_ble_eq_true rfl) (Nat.le_of_ble_eq_true rfl) dX8_init_79 dX8_init_81 (c2 := 9) (s2 := 1650) (p2 := 84) rfl rfl rfl (fun ad H locs hN hO hM hS => ?_)
  refine lv_aload_n hx hb dX8_init_84 rfl (lv_at hl 0 rfl) ?_
  refine lv_sipush (v := (168 : Int32)) hx hb dX8_init_85 (by decide) ?_
  refine md_mk1 hx hb hts hin_wsX80 hown hC hM hS hnm hN hO 19 (by decide) (fun j h1 h2 => absurd h1 (by omega)) (by decide) rfl (hB 19) (atype := .int) (ty := .int) ac_int rfl rfl (fun _ => rfl) rfl (by rfl) (by decide) (by decide) rfl rfl (fun _ => rfl) (fun _ => rfl) fl_42 (Nat.le_of_ble_eq_true rfl) (Nat.le_of_ble_eq_true rfl) dX8_init_88 dX8_init_90 (c2 := 10) (s2 := 1818) (p2 := 93) rfl rfl rfl (fun ad H locs hN hO hM hS => ?_)
  refine lv_aload_n hx hb dX8_init_93 rfl (lv_at hl 0 rfl) ?_
  refine lv_sipush (v := (672 : Int32)) hx hb dX8_init_94 (by decide) ?_
  refine md_mk1 hx hb hts hin_wsX80 hown hC hM hS hnm hN hO 20 (by decide) (fun j h1 h2 => absurd h1 (by omega)) (by decide) rfl (hB 20) (atype := .int) (ty := .int) ac_int rfl rfl (fun _ => rfl) rfl (by rfl) (by decide) (by decide) rfl rfl (fun _ => rfl) (fun _ => rfl) fl_45 (Nat.le_of_ble_eq_true rfl) (Nat.le_of_ble_eq_true rfl) dX8_init_97 dX8_init_99 (c2 := 11) (s2 := 2490) (p2 := 102) rfl rfl rfl (fun ad H locs hN hO hM hS => ?_)
  refine lv_aload_n hx hb dX8_init_102 rfl (lv_at hl 0 rfl) ?_
  refine lv_bipush (v := (40 : Int32)) hx hb dX8_init_103 (by decide) ?_
  refine md_mk1 hx hb hts hin_wsX80 hown hC hM hS hnm hN hO 23 (by decide) (fun j h1 h2 => by rcases (show j = 21 ∨ j = 22 by omega) with rfl | rfl <;> rfl) (by decide) rfl (hB 23) (atype := .int) (ty := .int) ac_int rfl rfl (fun _ => rfl) rfl (by rfl) (by decide) (by decide) rfl rfl (fun _ => rfl) (fun _ => rfl) fl_48 (Nat.le_of_ble_eq_true rfl) (Nat.le_of_ble_eq_true rfl) dX8_init_105 dX8_init_107 (c2 := 12) (s2 := 2530) (p2 := 110) rfl rfl rfl (fun ad H locs hN hO hM hS => ?_)
  refine lv_aload_n hx hb dX8_init_110 rfl (lv_at hl 0 rfl) ?_
  refine lv_bipush (v := (40 : Int32)) hx hb dX8_init_111 (by decide) ?_
  refine md_mk1 hx hb hts hin_wsX80 hown hC hM hS hnm hN hO 24 (by decide) (fun j h1 h2 => absurd h1 (by omega)) (by decide) rfl (hB 24) (atype := .int) (ty := .int) ac_int rfl rfl (fun _ => rfl) rfl (by rfl) (by decide) (by decide) rfl rfl (fun _ => rfl) (fun _ => rfl) fl_51 (Nat.le_of_ble_eq_true rfl) (Nat.le_of_ble_eq_true rfl) dX8_init_113 dX8_init_115 (c2 := 13) (s2 := 2570) (p2 := 118) rfl rfl rfl (fun ad H locs hN hO hM hS => ?_)
  refine lv_aload_n hx hb dX8_init_118 rfl (lv_at hl 0 rfl) ?_
  refine lv_bipush (v := (40 : Int32)) hx hb dX8_init_119 (by decide) ?_
  refine md_mk1 hx hb hts hin_wsX80 hown hC hM hS hnm hN hO 25 (by decide) (fun j h1 h2 => absurd h1 (by omega)) (by decide) rfl (hB 25) (atype := .int) (ty := .int) ac_int rfl rfl (fun _ => rfl) rfl (by rfl) (by decide) (by decide) rfl rfl (fun _ => rfl) (fun _ => rfl) fl_54 (Nat.le_of_ble_eq_true rfl) (Nat.le_of_ble_eq_true rfl) dX8_init_121 dX8_init_123 (c2 := 14) (s2 := 2610) (p2 := 126) rfl rfl rfl (fun ad H locs hN hO hM hS => ?_)
  refine lv_aload_n hx hb dX8_init_126 rfl (lv_at hl 0 rfl) ?_
  refine lv_bipush (v := (40 : Int32)) hx hb dX8_init_127 (by decide) ?_
  refine md_mk1 hx hb hts hin_wsX80 hown hC hM hS hnm hN hO 26 (by decide) (fun j h1 h2 => absurd h1 (by omega)) (by decide) rfl (hB 26) (atype := .int) (ty := .int) ac_int rfl rfl (fun _ => rfl) rfl (by rfl) (by decide) (by decide) rfl rfl (fun _ => rfl) (fun _ => rfl) fl_57 (Nat.le_of_ble_eq_true rfl) (Nat.le_of_ble_eq_true rfl) dX8_init_129 dX8_init_131 (c2 := 15) (s2 := 2650) (p2 := 134) rfl rfl rfl (fun ad H locs hN hO hM hS => ?_)
  refine lv_aload_n hx hb dX8_init_134 rfl (lv_at hl 0 rfl) ?_
  refine lv_bipush (v := (40 : Int32)) hx hb dX8_init_135 (by decide) ?_
  refine md_mk1 hx hb hts hin_wsX80 hown hC hM hS hnm hN hO 27 (by decide) (fun j h1 h2 => absurd h1 (by omega)) (by decide) rfl (hB 27) (atype := .int) (ty := .int) ac_int rfl rfl (fun _ => rfl) rfl (by rfl) (by decide) (by decide) rfl rfl (fun _ => rfl) (fun _ => rfl) fl_60 (Nat.le_of_ble_eq_true rfl) (Nat.le_of_ble_eq_true rfl) dX8_init_137 dX8_init_139 (c2 := 16) (s2 := 2690) (p2 := 142) rfl rfl rfl (fun ad H locs hN hO hM hS => ?_)
  refine lv_aload_n hx hb dX8_init_142 rfl (lv_at hl 0 rfl) ?_
  refine lv_bipush (v := (40 : Int32)) hx hb dX8_init_143 (by decide) ?_
  refine md_mk1 hx hb hts hin_wsX80 hown hC hM hS hnm hN hO 28 (by decide) (fun j h1 h2 => absurd h1 (by omega)) (by decide) rfl (hB 28) (atype := .int) (ty := .int) ac_int rfl rfl (fun _ => rfl) rfl (by rfl) (by decide) (by decide) rfl rfl (fun _ => rfl) (fun _ => rfl) fl_63 (Nat.le_of_ble_eq_true rfl) (Nat.le_of_ble_eq_true rfl) dX8_init_145 dX8_init_147 (c2 := 17) (s2 := 2730) (p2 := 150) rfl rfl rfl (fun ad H locs hN hO hM hS => ?_)
  refine lv_aload_n hx hb dX8_init_150 rfl (lv_at hl 0 rfl) ?_
  refine lv_bipush (v := (40 : Int32)) hx hb dX8_init_151 (by decide) ?_
  refine md_mk1 hx hb hts hin_wsX80 hown hC hM hS hnm hN hO 29 (by decide) (fun j h1 h2 => absurd h1 (by omega)) (by decide) rfl (hB 29) (atype := .int) (ty := .int) ac_int rfl rfl (fun _ => rfl) rfl (by rfl) (by decide) (by decide) rfl rfl (fun _ => rfl) (fun _ => rfl) fl_66 (Nat.le_of_ble_eq_true rfl) (Nat.le_of_ble_eq_true rfl) dX8_init_153 dX8_init_155 (c2 := 18) (s2 := 2770) (p2 := 158) rfl rfl rfl (fun ad H locs hN hO hM hS => ?_)
  refine lv_aload_n hx hb dX8_init_158 rfl (lv_at hl 0 rfl) ?_
  refine lv_bipush (v := (40 : Int32)) hx hb dX8_init_159 (by decide) ?_
  refine md_mk1 hx hb hts hin_wsX80 hown hC hM hS hnm hN hO 30 (by decide) (fun j h1 h2 => absurd h1 (by omega)) (by decide) rfl (hB 30) (atype := .int) (ty := .int) ac_int rfl rfl (fun _ => rfl) rfl (by rfl) (by decide) (by decide) rfl rfl (fun _ => rfl) (fun _ => rfl) fl_69 (Nat.le_of_ble_eq_true rfl) (Nat.le_of_ble_eq_true rfl) dX8_init_161 dX8_init_163 (c2 := 19) (s2 := 2810) (p2 := 166) rfl rfl rfl (fun ad H locs hN hO hM hS => ?_)
  refine lv_aload_n hx hb dX8_init_166 rfl (lv_at hl 0 rfl) ?_
  refine lv_bipush (v := (40 : Int32)) hx hb dX8_init_167 (by decide) ?_
  refine md_mk1 hx hb hts hin_wsX80 hown hC hM hS hnm hN hO 31 (by decide) (fun j h1 h2 => absurd h1 (by omega)) (by decide) rfl (hB 31) (atype := .int) (ty := .int) ac_int rfl rfl (fun _ => rfl) rfl (by rfl) (by decide) (by decide) rfl rfl (fun _ => rfl) (fun _ => rfl) fl_72 (Nat.le_of_ble_eq_true rfl) (Nat.le_of_ble_eq_true rfl) dX8_init_169 dX8_init_171 (c2 := 20) (s2 := 2850) (p2 := 174) rfl rfl rfl (fun ad H locs hN hO hM hS => ?_)
  refine lv_aload_n hx hb dX8_init_174 rfl (lv_at hl 0 rfl) ?_
  refine lv_bipush (v := (40 : Int32)) hx hb dX8_init_175 (by decide) ?_
  refine md_mk1 hx hb hts hin_wsX80 hown hC hM hS hnm hN hO 32 (by decide) (fun j h1 h2 => absurd h1 (by omega)) (by decide) rfl (hB 32) (atype := .int) (ty := .int) ac_int rfl rfl (fun _ => rfl) rfl (by rfl) (by decide) (by decide) rfl rfl (fun _ => rfl) (fun _ => rfl) fl_75 (Nat.le_of_ble_eq_true rfl) (Nat.le_of_ble_eq_true rfl) dX8_init_177 dX8_init_179 (c2 := 21) (s2 := 2890) (p2 := 182) rfl rfl rfl (fun ad H locs hN hO hM hS => ?_)
  refine lv_aload_n hx hb dX8_init_182 rfl (lv_at hl 0 rfl) ?_
  refine lv_bipush (v := (40 : Int32)) hx hb dX8_init_183 (by decide) ?_
  refine md_mk1 hx hb hts hin_wsX80 hown hC hM hS hnm hN hO 33 (by decide) (fun j h1 h2 => absurd h1 (by omega)) (by decide) rfl (hB 33) (atype := .int) (ty := .int) ac_int rfl rfl (fun _ => rfl) rfl (by rfl) (by decide) (by decide) rfl rfl (fun _ => rfl) (fun _ => rfl) fl_78 (Nat.le_of_ble_eq_true rfl) (Nat.le_of_ble_eq_true rfl) dX8_init_185 dX8_init_187 (c2 := 22) (s2 := 2930) (p2 := 190) rfl rfl rfl (fun ad H locs hN hO hM hS => ?_)
  refine lv_aload_n hx hb dX8_init_190 rfl (lv_at hl 0 rfl) ?_
  refine lv_bipush (v := (40 : Int32)) hx hb dX8_init_191 (by decide) ?_
  refine md_mk1 hx hb hts hin_wsX80 hown hC hM hS hnm hN hO 34 (by decide) (fun j h1 h2 => absurd h1 (by omega)) (by decide) rfl (hB 34) (atype := .int) (ty := .int) ac_int rfl rfl (fun _ => rfl) rfl (by rfl) (by decide) (by decide) rfl rfl (fun _ => rfl) (fun _ => rfl) fl_81 (Nat.le_of_ble_eq_true rfl) (Nat.le_of_ble_eq_true rfl) dX8_init_193 dX8_init_195 (c2 := 23) (s2 := 2970) (p2 := 198) rfl rfl rfl (fun ad H locs hN hO hM hS => ?_)
  refine lv_aload_n hx hb dX8_init_198 rfl (lv_at hl 0 rfl) ?_
  refine lv_bipush (v := (40 : Int32)) hx hb dX8_init_199 (by decide) ?_
  refine md_mk1 hx hb hts hin_wsX80 hown hC hM hS hnm hN hO 35 (by decide) (fun j h1 h2 => absurd h1 (by omega)) (by decide) rfl (hB 35) (atype := .int) (ty := .int) ac_int rfl rfl (fun _ => rfl) rfl (by rfl) (by decide) (by decide) rfl rfl (fun _ => rfl) (fun _ => rfl) fl_84 (Nat.le_of_ble_eq_true rfl) (Nat.le_of_ble_eq_true rfl) dX8_init_201 dX8_init_203 (c2 := 24) (s2 := 3010) (p2 := 206) rfl rfl rfl (fun ad H locs hN hO hM hS => ?_)
  refine lv_aload_n hx hb dX8_init_206 rfl (lv_at hl 0 rfl) ?_
  refine lv_bipush (v := (40 : Int32)) hx hb dX8_init_207 (by decide) ?_
  refine md_mk1 hx hb hts hin_wsX80 hown hC hM hS hnm hN hO 36 (by decide) (fun j h1 h2 => absurd h1 (by omega)) (by decide) rfl (hB 36) (atype := .int) (ty := .int) ac_int rfl rfl (fun _ => rfl) rfl (by rfl) (by decide) (by decide) rfl rfl (fun _ => rfl) (fun _ => rfl) fl_87 (Nat.le_of_ble_eq_true rfl) (Nat.le_of_ble_eq_true rfl) dX8_init_209 dX8_init_211 (c2 := 25) (s2 := 3050) (p2 := 214) rfl rfl rfl (fun ad H locs hN hO hM hS => ?_)
  refine lv_aload_n hx hb dX8_init_214 rfl (lv_at hl 0 rfl) ?_
  refine lv_bipush (v := (40 : Int32)) hx hb dX8_init_215 (by decide) ?_
  refine md_mk1 hx hb hts hin_wsX80 hown hC hM hS hnm hN hO 37 (by decide) (fun j h1 h2 => absurd h1 (by omega)) (by decide) rfl (hB 37) (atype := .int) (ty := .int) ac_int rfl rfl (fun _ => rfl) rfl (by rfl) (by decide) (by decide) rfl rfl (fun _ => rfl) (fun _ => rfl) fl_90 (Nat.le_of_ble_eq_true rfl) (Nat.le_of_ble_eq_true rfl) dX8_init_217 dX8_init_219 (c2 := 26) (s2 := 3090) (p2 := 222) rfl rfl rfl (fun ad H locs hN hO hM hS => ?_)
  refine lv_aload_n hx hb dX8_init_222 rfl (lv_at hl 0 rfl) ?_
  refine lv_bipush (v := (40 : Int32)) hx hb dX8_init_223 (by decide) ?_
  refine md_mk1 hx hb hts hin_wsX80 hown hC hM hS hnm hN hO 38 (by decide) (fun j h1 h2 => absurd h1 (by omega)) (by decide) rfl (hB 38) (atype := .int) (ty := .int) ac_int rfl rfl (fun _ => rfl) rfl (by rfl) (by decide) (by decide) rfl rfl (fun _ => rfl) (fun _ => rfl) fl_93 (Nat.le_of_ble_eq_true rfl) (Nat.le_of_ble_eq_true rfl) dX8_init_225 dX8_init_227 (c2 := 27) (s2 := 3130) (p2 := 230) rfl rfl rfl (fun ad H locs hN hO hM hS => ?_)
  refine lv_aload_n hx hb dX8_init_230 rfl (lv_at hl 0 rfl) ?_
  refine lv_bipush (v := (40 : Int32)) hx hb dX8_init_231 (by decide) ?_
  refine md_mk1 hx hb hts hin_wsX80 hown hC hM hS hnm hN hO 39 (by decide) (fun j h1 h2 => absurd h1 (by omega)) (by decide) rfl (hB 39) (atype := .boolean) (ty := .boolean) ac_boolean rfl rfl (fun _ => rfl) rfl (by rfl) (by decide) (by decide) rfl rfl (fun _ => rfl) (fun _ => rfl) fl_96 (Nat.le_of_ble_eq_true rfl) (Nat.le_of_ble_eq_true rfl) dX8_init_233 dX8_init_235 (c2 := 28) (s2 := 3170) (p2 := 238) rfl rfl rfl (fun ad H locs hN hO hM hS => ?_)
  refine lv_aload_n hx hb dX8_init_238 rfl (lv_at hl 0 rfl) ?_
  refine lv_sipush (v := (480 : Int32)) hx hb dX8_init_239 (by decide) ?_
  refine md_mk1 hx hb hts hin_wsX80 hown hC hM hS hnm hN hO 40 (by decide) (fun j h1 h2 => absurd h1 (by omega)) (by decide) rfl (hB 40) (atype := .boolean) (ty := .boolean) ac_boolean rfl rfl (fun _ => rfl) rfl (by rfl) (by decide) (by decide) rfl rfl (fun _ => rfl) (fun _ => rfl) fl_100 (Nat.le_of_ble_eq_true rfl) (Nat.le_of_ble_eq_true rfl) dX8_init_242 dX8_init_244 (c2 := 29) (s2 := 3650) (p2 := 247) rfl rfl rfl (fun ad H locs hN hO hM hS => ?_)
  refine lv_aload_n hx hb dX8_init_247 rfl (lv_at hl 0 rfl) ?_
  refine lv_bipush (v := (100 : Int32)) hx hb dX8_init_248 (by decide) ?_
  refine md_mk1 hx hb hts hin_wsX80 hown hC hM hS hnm hN hO 41 (by decide) (fun j h1 h2 => absurd h1 (by omega)) (by decide) rfl (hB 41) (atype := .int) (ty := .int) ac_int rfl rfl (fun _ => rfl) rfl (by rfl) (by decide) (by decide) rfl rfl (fun _ => rfl) (fun _ => rfl) fl_103 (Nat.le_of_ble_eq_true rfl) (Nat.le_of_ble_eq_true rfl) dX8_init_250 dX8_init_252 (c2 := 30) (s2 := 3750) (p2 := 255) rfl rfl rfl (fun ad H locs hN hO hM hS => ?_)
  refine lv_aload_n hx hb dX8_init_255 rfl (lv_at hl 0 rfl) ?_
  refine lv_bipush (v := (100 : Int32)) hx hb dX8_init_256 (by decide) ?_
  refine md_mk1 hx hb hts hin_wsX80 hown hC hM hS hnm hN hO 42 (by decide) (fun j h1 h2 => absurd h1 (by omega)) (by decide) rfl (hB 42) (atype := .int) (ty := .int) ac_int rfl rfl (fun _ => rfl) rfl (by rfl) (by decide) (by decide) rfl rfl (fun _ => rfl) (fun _ => rfl) fl_106 (Nat.le_of_ble_eq_true rfl) (Nat.le_of_ble_eq_true rfl) dX8_init_258 dX8_init_260 (c2 := 31) (s2 := 3850) (p2 := 263) rfl rfl rfl (fun ad H locs hN hO hM hS => ?_)
  refine lv_aload_n hx hb dX8_init_263 rfl (lv_at hl 0 rfl) ?_
  refine lv_bipush (v := (100 : Int32)) hx hb dX8_init_264 (by decide) ?_
  refine md_mk1 hx hb hts hin_wsX80 hown hC hM hS hnm hN hO 43 (by decide) (fun j h1 h2 => absurd h1 (by omega)) (by decide) rfl (hB 43) (atype := .int) (ty := .int) ac_int rfl rfl (fun _ => rfl) rfl (by rfl) (by decide) (by decide) rfl rfl (fun _ => rfl) (fun _ => rfl) fl_109 (Nat.le_of_ble_eq_true rfl) (Nat.le_of_ble_eq_true rfl) dX8_init_266 dX8_init_268 (c2 := 32) (s2 := 3950) (p2 := 271) rfl rfl rfl (fun ad H locs hN hO hM hS => ?_)
  refine lv_aload_n hx hb dX8_init_271 rfl (lv_at hl 0 rfl) ?_
  refine lv_bipush (v := (100 : Int32)) hx hb dX8_init_272 (by decide) ?_
  refine md_mk1 hx hb hts hin_wsX80 hown hC hM hS hnm hN hO 44 (by decide) (fun j h1 h2 => absurd h1 (by omega)) (by decide) rfl (hB 44) (atype := .int) (ty := .int) ac_int rfl rfl (fun _ => rfl) rfl (by rfl) (by decide) (by decide) rfl rfl (fun _ => rfl) (fun _ => rfl) fl_112 (Nat.le_of_ble_eq_true rfl) (Nat.le_of_ble_eq_true rfl) dX8_init_274 dX8_init_276 (c2 := 33) (s2 := 4050) (p2 := 279) rfl rfl rfl (fun ad H locs hN hO hM hS => ?_)
  exact mp_vret hx hb hr hlocks (Nat.le_of_ble_eq_true rfl) (Nat.le_of_ble_eq_true rfl) hM hS dX8_init_279 (⟨rfl, md_M2_done G B h _ _ (fun k hk => hO k (Nat.lt_of_not_le (fun q => by rw [md_arr_big q] at hk; cases hk)) hk)⟩)
