/-! ===== the law's turns: a call on the class, the same call on the reference, the two answers are equal ===== -/
def lw_E (p : Program) (s : State) (m : MethodId) (c : Code) (b L : Nat) (xs : Nat → Int32) (X : mp_X) (G : mp_G) (A : Nat → Prop) : Prop := p.tables.exec = Jvm.exec ∧ c.code = code ∧ c.maxLocals = 4 ∧ s.vm.findClass RL = some m.cls ∧ (∀ w ∈ wsL_law, w.before #[Value.ref b] s = true) ∧ va_X b L xs s s.heap ∧ b < s.heap.size ∧ ¬ A b ∧ mp_C X G A s s.heap
theorem lw_O {G : mp_G} {X : mp_X} {M : mp_M} {bq h : Nat} (hI : INV G X M bq h) : ∃ fs : List Value, M (8, 0, 0) = some (bq, .inr (8, fs)) := by
  obtain ⟨ad, n, f, l0, l1, l2, l3, tp, tz, td, fl, tt, pl, ra, Rg, pn, pa, pf, pk, zc, zz, ap, aa, dq, av, dv, nh, ah, vh, -, -, hB, -⟩ := hI
  exact ⟨_, hB.O⟩
theorem mp_stk {p : Program} {l : Launch} {e : Env} {R : Room} {s : State} {m : MethodId} {args : Array Value} {below : List Frame} {meth : Method} {c : Code} {H : Heap} {locs : List Loc} {cells slots : Nat} {Q : State → Prop} {pc : Nat} {ls : Array Slot} {st0 st : List Value} (h : st0 = st) (k : W p l e R s m args below meth c H locs cells slots Q (F0 m pc ls st)) : W p l e R s m args below meth c H locs cells slots Q (F0 m pc ls st0) := by rw [h]; exact k
section LAWC
variable {p : Program} {l : Launch} {e : Env} {s : State} {m : MethodId} {below : List Frame} {meth : Method} {c : Code} {b L : Nat} {xs : Nat → Int32} {X : mp_X} {G : mp_G} {A : Nat → Prop} {M : mp_M} {bq h it : Nat} {H : Heap} {locs : List Loc} {cells slots : Nat} {Q : State → Prop} {ls : Array Slot}
theorem law_day (E : lw_E p s m c b L xs X G A) (hL : L ≤ 5120) (hi : 10 * it + 10 ≤ L) (hI : INV G X M bq h) (hM : mp_P G.1 A M H) (hS : va_S A s.heap H locs) (hl : lv_has ls 4 [(3, .int (nI (10 * it))), (2, .ref h), (1, .ref bq), (0, .ref b)]) (hc : cells + 20 ≤ 600000) (hs : slots + 1408 ≤ 7302250)
    (kk : ∀ (M : mp_M) (H : Heap) (locs : List Loc), INV G X M bq h → mp_P G.1 A M H → va_S A s.heap H locs → W p l e room_1 s m #[Value.ref b] below meth c H locs (cells + 20) (slots + 1408) Q (F0 m 1011 ls [])) : W p l e room_1 s m #[Value.ref b] below meth c H locs cells slots Q (F0 m 140 ls []) := by
  obtain ⟨hx, hb, hml, hown, hts, hX, hbl, hbA, hC⟩ := E
  obtain ⟨fs, hO⟩ := lw_O hI
  refine lv_aload_n hx hb dL_law_140 rfl (lv_at hl 2 rfl) ?_
  refine lv_aload_n hx hb dL_law_141 rfl (lv_at hl 3 rfl) ?_
  refine lv_iload_n hx hb dL_law_142 rfl (lv_at hl 0 rfl) ?_
  refine lv_iconst (v := (1 : Int32)) hx hb dL_law_143 (by decide) ?_
  refine lv_iadd hx hb dL_law_144 ?_
  refine mp_top (nI (10 * it + 1)) (nI_add (10 * it) 1) ?_
  refine va_sld hx hb hX hbl hbA hS (nI_in (by omega) (by omega)) dL_law_145 ?_
  refine mp_top (xs (10 * it + 1)) (by rw [nI_clamp (by omega)]) ?_
  refine mp_call (va_runV (As := [.int (xs (10 * it + 1))]) (rest := []) ⟨hx, hb, hml, hown, hts⟩ (pr_day l X G A M bq h hI (xs (10 * it + 1))) (cwV 1 hts gL_law_X7_day rfl rfl rfl (by decide +kernel) ⟨Nat.le_of_ble_eq_true rfl, Nat.le_of_ble_eq_true rfl⟩) (mp_preV hC hS hM (mp_recv hC.1 hM hO (r := (RX7, TX7, 9)) rfl)) rfl rfl hl.1 rfl (lv_room (Nat.le_of_ble_eq_true rfl)) dL_law_146 ⟨by show cells + 0 ≤ 600000; omega, by show slots + 0 ≤ 7302250; omega⟩) hS (fun v M1 H locs hp hM hS => ?_)
  obtain ⟨V, rfl, ⟨fs1, hO1⟩, hr⟩ := hp
  refine mp_stk (st := [.int V]) rfl ?_
  refine lv_aload_n hx hb dL_law_149 rfl (lv_at hl 1 rfl) ?_
  refine lv_aload_n hx hb dL_law_150 rfl (lv_at hl 3 rfl) ?_
  refine lv_iload_n hx hb dL_law_151 rfl (lv_at hl 0 rfl) ?_
  refine lv_iconst (v := (1 : Int32)) hx hb dL_law_152 (by decide) ?_
  refine lv_iadd hx hb dL_law_153 ?_
  refine mp_top (nI (10 * it + 1)) (nI_add (10 * it) 1) ?_
  refine va_sld hx hb hX hbl hbA hS (nI_in (by omega) (by omega)) dL_law_154 ?_
  refine mp_top (xs (10 * it + 1)) (by rw [nI_clamp (by omega)]) ?_
  refine mp_call (va_runV (As := [.int (xs (10 * it + 1))]) (rest := [.int V]) ⟨hx, hb, hml, hown, hts⟩ hr (cwV 1 hts gL_law_X8_day rfl rfl rfl (by decide +kernel) ⟨Nat.le_of_ble_eq_true rfl, Nat.le_of_ble_eq_true rfl⟩) (mp_preV hC hS hM (mp_recv hC.1 hM hO1 (r := (RX8, TX8, 45)) rfl)) rfl rfl hl.1 rfl (lv_room (Nat.le_of_ble_eq_true rfl)) dL_law_155 ⟨by show cells + 0 + 0 ≤ 600000; omega, by show slots + 0 + 0 ≤ 7302250; omega⟩) hS (fun w M2 H locs hp hM hS => ?_)
  obtain ⟨rfl, hI⟩ := hp
  refine mp_stk (st := [.int V, .int V]) rfl ?_
  exact lv_icmp_eq (tgt := 1011) hx hb dL_law_158 (by decide) (fun _ => W.widen (k := cells + 20) (n := slots + 1408) (by omega) (by omega) (kk M2 H locs hI hM hS)) (fun q => absurd rfl q)
theorem law_corner (E : lw_E p s m c b L xs X G A) (hL : L ≤ 5120) (hi : 10 * it + 10 ≤ L) (hI : INV G X M bq h) (hM : mp_P G.1 A M H) (hS : va_S A s.heap H locs) (hl : lv_has ls 4 [(3, .int (nI (10 * it))), (2, .ref h), (1, .ref bq), (0, .ref b)]) (hc : cells + 20 ≤ 600000) (hs : slots + 1408 ≤ 7302250)
    (kk : ∀ (M : mp_M) (H : Heap) (locs : List Loc), INV G X M bq h → mp_P G.1 A M H → va_S A s.heap H locs → W p l e room_1 s m #[Value.ref b] below meth c H locs (cells + 20) (slots + 1408) Q (F0 m 1011 ls [])) : W p l e room_1 s m #[Value.ref b] below meth c H locs cells slots Q (F0 m 163 ls []) := by
  obtain ⟨hx, hb, hml, hown, hts, hX, hbl, hbA, hC⟩ := E
  obtain ⟨fs, hO⟩ := lw_O hI
  refine lv_aload_n hx hb dL_law_163 rfl (lv_at hl 2 rfl) ?_
  refine lv_aload_n hx hb dL_law_164 rfl (lv_at hl 3 rfl) ?_
  refine lv_iload_n hx hb dL_law_165 rfl (lv_at hl 0 rfl) ?_
  refine lv_iconst (v := (1 : Int32)) hx hb dL_law_166 (by decide) ?_
  refine lv_iadd hx hb dL_law_167 ?_
  refine mp_top (nI (10 * it + 1)) (nI_add (10 * it) 1) ?_
  refine va_sld hx hb hX hbl hbA hS (nI_in (by omega) (by omega)) dL_law_168 ?_
  refine mp_top (xs (10 * it + 1)) (by rw [nI_clamp (by omega)]) ?_
  refine lv_aload_n hx hb dL_law_169 rfl (lv_at hl 3 rfl) ?_
  refine lv_iload_n hx hb dL_law_170 rfl (lv_at hl 0 rfl) ?_
  refine lv_iconst (v := (2 : Int32)) hx hb dL_law_171 (by decide) ?_
  refine lv_iadd hx hb dL_law_172 ?_
  refine mp_top (nI (10 * it + 2)) (nI_add (10 * it) 2) ?_
  refine va_sld hx hb hX hbl hbA hS (nI_in (by omega) (by omega)) dL_law_173 ?_
  refine mp_top (xs (10 * it + 2)) (by rw [nI_clamp (by omega)]) ?_
  refine mp_call (va_runV (As := [.int (xs (10 * it + 1)), .int (xs (10 * it + 2))]) (rest := []) ⟨hx, hb, hml, hown, hts⟩ (pr_corner l X G A M bq h hI (xs (10 * it + 1)) (xs (10 * it + 2))) (cwV 2 hts gL_law_X7_corner rfl rfl rfl (by decide +kernel) ⟨Nat.le_of_ble_eq_true rfl, Nat.le_of_ble_eq_true rfl⟩) (mp_preV hC hS hM (mp_recv hC.1 hM hO (r := (RX7, TX7, 9)) rfl)) rfl rfl hl.1 rfl (lv_room (Nat.le_of_ble_eq_true rfl)) dL_law_174 ⟨by show cells + 0 ≤ 600000; omega, by show slots + 0 ≤ 7302250; omega⟩) hS (fun v M1 H locs hp hM hS => ?_)
  obtain ⟨V, rfl, ⟨fs1, hO1⟩, hr⟩ := hp
  refine mp_stk (st := [.int V]) rfl ?_
  refine lv_aload_n hx hb dL_law_177 rfl (lv_at hl 1 rfl) ?_
  refine lv_aload_n hx hb dL_law_178 rfl (lv_at hl 3 rfl) ?_
  refine lv_iload_n hx hb dL_law_179 rfl (lv_at hl 0 rfl) ?_
  refine lv_iconst (v := (1 : Int32)) hx hb dL_law_180 (by decide) ?_
  refine lv_iadd hx hb dL_law_181 ?_
  refine mp_top (nI (10 * it + 1)) (nI_add (10 * it) 1) ?_
  refine va_sld hx hb hX hbl hbA hS (nI_in (by omega) (by omega)) dL_law_182 ?_
  refine mp_top (xs (10 * it + 1)) (by rw [nI_clamp (by omega)]) ?_
  refine lv_aload_n hx hb dL_law_183 rfl (lv_at hl 3 rfl) ?_
  refine lv_iload_n hx hb dL_law_184 rfl (lv_at hl 0 rfl) ?_
  refine lv_iconst (v := (2 : Int32)) hx hb dL_law_185 (by decide) ?_
  refine lv_iadd hx hb dL_law_186 ?_
  refine mp_top (nI (10 * it + 2)) (nI_add (10 * it) 2) ?_
  refine va_sld hx hb hX hbl hbA hS (nI_in (by omega) (by omega)) dL_law_187 ?_
  refine mp_top (xs (10 * it + 2)) (by rw [nI_clamp (by omega)]) ?_
  refine mp_call (va_runV (As := [.int (xs (10 * it + 1)), .int (xs (10 * it + 2))]) (rest := [.int V]) ⟨hx, hb, hml, hown, hts⟩ hr (cwV 2 hts gL_law_X8_corner rfl rfl rfl (by decide +kernel) ⟨Nat.le_of_ble_eq_true rfl, Nat.le_of_ble_eq_true rfl⟩) (mp_preV hC hS hM (mp_recv hC.1 hM hO1 (r := (RX8, TX8, 45)) rfl)) rfl rfl hl.1 rfl (lv_room (Nat.le_of_ble_eq_true rfl)) dL_law_188 ⟨by show cells + 0 + 0 ≤ 600000; omega, by show slots + 0 + 0 ≤ 7302250; omega⟩) hS (fun w M2 H locs hp hM hS => ?_)
  obtain ⟨rfl, hI⟩ := hp
  refine mp_stk (st := [.int V, .int V]) rfl ?_
  exact lv_icmp_eq (tgt := 1011) hx hb dL_law_191 (by decide) (fun _ => W.widen (k := cells + 20) (n := slots + 1408) (by omega) (by omega) (kk M2 H locs hI hM hS)) (fun q => absurd rfl q)
theorem law_plot (E : lw_E p s m c b L xs X G A) (hL : L ≤ 5120) (hi : 10 * it + 10 ≤ L) (hI : INV G X M bq h) (hM : mp_P G.1 A M H) (hS : va_S A s.heap H locs) (hl : lv_has ls 4 [(3, .int (nI (10 * it))), (2, .ref h), (1, .ref bq), (0, .ref b)]) (hc : cells + 20 ≤ 600000) (hs : slots + 1408 ≤ 7302250)
    (kk : ∀ (M : mp_M) (H : Heap) (locs : List Loc), INV G X M bq h → mp_P G.1 A M H → va_S A s.heap H locs → W p l e room_1 s m #[Value.ref b] below meth c H locs (cells + 20) (slots + 1408) Q (F0 m 1011 ls [])) : W p l e room_1 s m #[Value.ref b] below meth c H locs cells slots Q (F0 m 196 ls []) := by
  obtain ⟨hx, hb, hml, hown, hts, hX, hbl, hbA, hC⟩ := E
  obtain ⟨fs, hO⟩ := lw_O hI
  refine lv_aload_n hx hb dL_law_196 rfl (lv_at hl 2 rfl) ?_
  refine mp_call (va_runV (As := []) (rest := []) ⟨hx, hb, hml, hown, hts⟩ (pr_plot l X G A M bq h hI) (cwV 0 hts gL_law_X7_plot rfl rfl rfl (by decide +kernel) ⟨Nat.le_of_ble_eq_true rfl, Nat.le_of_ble_eq_true rfl⟩) (mp_preV hC hS hM (mp_recv hC.1 hM hO (r := (RX7, TX7, 9)) rfl)) rfl rfl hl.1 rfl (lv_room (Nat.le_of_ble_eq_true rfl)) dL_law_197 ⟨by show cells + 4 ≤ 600000; omega, by show slots + 169 ≤ 7302250; omega⟩) hS (fun v M1 H locs hp hM hS => ?_)
  obtain ⟨V, rfl, ⟨fs1, hO1⟩, hr⟩ := hp
  refine mp_stk (st := [.int V]) rfl ?_
  refine lv_aload_n hx hb dL_law_200 rfl (lv_at hl 1 rfl) ?_
  refine mp_call (va_runV (As := []) (rest := [.int V]) ⟨hx, hb, hml, hown, hts⟩ hr (cwV 0 hts gL_law_X8_plot rfl rfl rfl (by decide +kernel) ⟨Nat.le_of_ble_eq_true rfl, Nat.le_of_ble_eq_true rfl⟩) (mp_preV hC hS hM (mp_recv hC.1 hM hO1 (r := (RX8, TX8, 45)) rfl)) rfl rfl hl.1 rfl (lv_room (Nat.le_of_ble_eq_true rfl)) dL_law_201 ⟨by show cells + 4 + 0 ≤ 600000; omega, by show slots + 169 + 0 ≤ 7302250; omega⟩) hS (fun w M2 H locs hp hM hS => ?_)
  obtain ⟨rfl, hI⟩ := hp
  refine mp_stk (st := [.int V, .int V]) rfl ?_
  exact lv_icmp_eq (tgt := 1011) hx hb dL_law_204 (by decide) (fun _ => W.widen (k := cells + 20) (n := slots + 1408) (by omega) (by omega) (kk M2 H locs hI hM hS)) (fun q => absurd rfl q)
theorem law_ring (E : lw_E p s m c b L xs X G A) (hL : L ≤ 5120) (hi : 10 * it + 10 ≤ L) (hI : INV G X M bq h) (hM : mp_P G.1 A M H) (hS : va_S A s.heap H locs) (hl : lv_has ls 4 [(3, .int (nI (10 * it))), (2, .ref h), (1, .ref bq), (0, .ref b)]) (hc : cells + 20 ≤ 600000) (hs : slots + 1408 ≤ 7302250)
    (kk : ∀ (M : mp_M) (H : Heap) (locs : List Loc), INV G X M bq h → mp_P G.1 A M H → va_S A s.heap H locs → W p l e room_1 s m #[Value.ref b] below meth c H locs (cells + 20) (slots + 1408) Q (F0 m 1011 ls [])) : W p l e room_1 s m #[Value.ref b] below meth c H locs cells slots Q (F0 m 209 ls []) := by
  obtain ⟨hx, hb, hml, hown, hts, hX, hbl, hbA, hC⟩ := E
  obtain ⟨fs, hO⟩ := lw_O hI
  refine lv_aload_n hx hb dL_law_209 rfl (lv_at hl 2 rfl) ?_
  refine lv_aload_n hx hb dL_law_210 rfl (lv_at hl 3 rfl) ?_
  refine lv_iload_n hx hb dL_law_211 rfl (lv_at hl 0 rfl) ?_
  refine lv_iconst (v := (1 : Int32)) hx hb dL_law_212 (by decide) ?_
  refine lv_iadd hx hb dL_law_213 ?_
  refine mp_top (nI (10 * it + 1)) (nI_add (10 * it) 1) ?_
  refine va_sld hx hb hX hbl hbA hS (nI_in (by omega) (by omega)) dL_law_214 ?_
  refine mp_top (xs (10 * it + 1)) (by rw [nI_clamp (by omega)]) ?_
  refine lv_aload_n hx hb dL_law_215 rfl (lv_at hl 3 rfl) ?_
  refine lv_iload_n hx hb dL_law_216 rfl (lv_at hl 0 rfl) ?_
  refine lv_iconst (v := (2 : Int32)) hx hb dL_law_217 (by decide) ?_
  refine lv_iadd hx hb dL_law_218 ?_
  refine mp_top (nI (10 * it + 2)) (nI_add (10 * it) 2) ?_
  refine va_sld hx hb hX hbl hbA hS (nI_in (by omega) (by omega)) dL_law_219 ?_
  refine mp_top (xs (10 * it + 2)) (by rw [nI_clamp (by omega)]) ?_
  refine mp_call (va_runV (As := [.int (xs (10 * it + 1)), .int (xs (10 * it + 2))]) (rest := []) ⟨hx, hb, hml, hown, hts⟩ (pr_ring l X G A M bq h hI (xs (10 * it + 1)) (xs (10 * it + 2))) (cwV 2 hts gL_law_X7_ring rfl rfl rfl (by decide +kernel) ⟨Nat.le_of_ble_eq_true rfl, Nat.le_of_ble_eq_true rfl⟩) (mp_preV hC hS hM (mp_recv hC.1 hM hO (r := (RX7, TX7, 9)) rfl)) rfl rfl hl.1 rfl (lv_room (Nat.le_of_ble_eq_true rfl)) dL_law_220 ⟨by show cells + 0 ≤ 600000; omega, by show slots + 0 ≤ 7302250; omega⟩) hS (fun v M1 H locs hp hM hS => ?_)
  obtain ⟨V, rfl, ⟨fs1, hO1⟩, hr⟩ := hp
  refine mp_stk (st := [.int V]) rfl ?_
  refine lv_aload_n hx hb dL_law_223 rfl (lv_at hl 1 rfl) ?_
  refine lv_aload_n hx hb dL_law_224 rfl (lv_at hl 3 rfl) ?_
  refine lv_iload_n hx hb dL_law_225 rfl (lv_at hl 0 rfl) ?_
  refine lv_iconst (v := (1 : Int32)) hx hb dL_law_226 (by decide) ?_
  refine lv_iadd hx hb dL_law_227 ?_
  refine mp_top (nI (10 * it + 1)) (nI_add (10 * it) 1) ?_
  refine va_sld hx hb hX hbl hbA hS (nI_in (by omega) (by omega)) dL_law_228 ?_
  refine mp_top (xs (10 * it + 1)) (by rw [nI_clamp (by omega)]) ?_
  refine lv_aload_n hx hb dL_law_229 rfl (lv_at hl 3 rfl) ?_
  refine lv_iload_n hx hb dL_law_230 rfl (lv_at hl 0 rfl) ?_
  refine lv_iconst (v := (2 : Int32)) hx hb dL_law_231 (by decide) ?_
  refine lv_iadd hx hb dL_law_232 ?_
  refine mp_top (nI (10 * it + 2)) (nI_add (10 * it) 2) ?_
  refine va_sld hx hb hX hbl hbA hS (nI_in (by omega) (by omega)) dL_law_233 ?_
  refine mp_top (xs (10 * it + 2)) (by rw [nI_clamp (by omega)]) ?_
  refine mp_call (va_runV (As := [.int (xs (10 * it + 1)), .int (xs (10 * it + 2))]) (rest := [.int V]) ⟨hx, hb, hml, hown, hts⟩ hr (cwV 2 hts gL_law_X8_ring rfl rfl rfl (by decide +kernel) ⟨Nat.le_of_ble_eq_true rfl, Nat.le_of_ble_eq_true rfl⟩) (mp_preV hC hS hM (mp_recv hC.1 hM hO1 (r := (RX8, TX8, 45)) rfl)) rfl rfl hl.1 rfl (lv_room (Nat.le_of_ble_eq_true rfl)) dL_law_234 ⟨by show cells + 0 + 0 ≤ 600000; omega, by show slots + 0 + 0 ≤ 7302250; omega⟩) hS (fun w M2 H locs hp hM hS => ?_)
  obtain ⟨rfl, hI⟩ := hp
  refine mp_stk (st := [.int V, .int V]) rfl ?_
  exact lv_icmp_eq (tgt := 1011) hx hb dL_law_237 (by decide) (fun _ => W.widen (k := cells + 20) (n := slots + 1408) (by omega) (by omega) (kk M2 H locs hI hM hS)) (fun q => absurd rfl q)
theorem law_near (E : lw_E p s m c b L xs X G A) (hL : L ≤ 5120) (hi : 10 * it + 10 ≤ L) (hI : INV G X M bq h) (hM : mp_P G.1 A M H) (hS : va_S A s.heap H locs) (hl : lv_has ls 4 [(3, .int (nI (10 * it))), (2, .ref h), (1, .ref bq), (0, .ref b)]) (hc : cells + 20 ≤ 600000) (hs : slots + 1408 ≤ 7302250)
    (kk : ∀ (M : mp_M) (H : Heap) (locs : List Loc), INV G X M bq h → mp_P G.1 A M H → va_S A s.heap H locs → W p l e room_1 s m #[Value.ref b] below meth c H locs (cells + 20) (slots + 1408) Q (F0 m 1011 ls [])) : W p l e room_1 s m #[Value.ref b] below meth c H locs cells slots Q (F0 m 242 ls []) := by
  obtain ⟨hx, hb, hml, hown, hts, hX, hbl, hbA, hC⟩ := E
  obtain ⟨fs, hO⟩ := lw_O hI
  refine lv_aload_n hx hb dL_law_242 rfl (lv_at hl 2 rfl) ?_
  refine lv_aload_n hx hb dL_law_243 rfl (lv_at hl 3 rfl) ?_
  refine lv_iload_n hx hb dL_law_244 rfl (lv_at hl 0 rfl) ?_
  refine lv_iconst (v := (1 : Int32)) hx hb dL_law_245 (by decide) ?_
  refine lv_iadd hx hb dL_law_246 ?_
  refine mp_top (nI (10 * it + 1)) (nI_add (10 * it) 1) ?_
  refine va_sld hx hb hX hbl hbA hS (nI_in (by omega) (by omega)) dL_law_247 ?_
  refine mp_top (xs (10 * it + 1)) (by rw [nI_clamp (by omega)]) ?_
  refine lv_aload_n hx hb dL_law_248 rfl (lv_at hl 3 rfl) ?_
  refine lv_iload_n hx hb dL_law_249 rfl (lv_at hl 0 rfl) ?_
  refine lv_iconst (v := (2 : Int32)) hx hb dL_law_250 (by decide) ?_
  refine lv_iadd hx hb dL_law_251 ?_
  refine mp_top (nI (10 * it + 2)) (nI_add (10 * it) 2) ?_
  refine va_sld hx hb hX hbl hbA hS (nI_in (by omega) (by omega)) dL_law_252 ?_
  refine mp_top (xs (10 * it + 2)) (by rw [nI_clamp (by omega)]) ?_
  refine lv_aload_n hx hb dL_law_253 rfl (lv_at hl 3 rfl) ?_
  refine lv_iload_n hx hb dL_law_254 rfl (lv_at hl 0 rfl) ?_
  refine lv_iconst (v := (3 : Int32)) hx hb dL_law_255 (by decide) ?_
  refine lv_iadd hx hb dL_law_256 ?_
  refine mp_top (nI (10 * it + 3)) (nI_add (10 * it) 3) ?_
  refine va_sld hx hb hX hbl hbA hS (nI_in (by omega) (by omega)) dL_law_257 ?_
  refine mp_top (xs (10 * it + 3)) (by rw [nI_clamp (by omega)]) ?_
  refine mp_call (va_runV (As := [.int (xs (10 * it + 1)), .int (xs (10 * it + 2)), .int (xs (10 * it + 3))]) (rest := []) ⟨hx, hb, hml, hown, hts⟩ (pr_near l X G A M bq h hI (xs (10 * it + 1)) (xs (10 * it + 2)) (xs (10 * it + 3))) (cwV 3 hts gL_law_X7_near rfl rfl rfl (by decide +kernel) ⟨Nat.le_of_ble_eq_true rfl, Nat.le_of_ble_eq_true rfl⟩) (mp_preV hC hS hM (mp_recv hC.1 hM hO (r := (RX7, TX7, 9)) rfl)) rfl rfl hl.1 rfl (lv_room (Nat.le_of_ble_eq_true rfl)) dL_law_258 ⟨by show cells + 0 ≤ 600000; omega, by show slots + 0 ≤ 7302250; omega⟩) hS (fun v M1 H locs hp hM hS => ?_)
  obtain ⟨V, rfl, ⟨fs1, hO1⟩, hr⟩ := hp
  refine mp_stk (st := [.int V]) rfl ?_
  refine lv_aload_n hx hb dL_law_261 rfl (lv_at hl 1 rfl) ?_
  refine lv_aload_n hx hb dL_law_262 rfl (lv_at hl 3 rfl) ?_
  refine lv_iload_n hx hb dL_law_263 rfl (lv_at hl 0 rfl) ?_
  refine lv_iconst (v := (1 : Int32)) hx hb dL_law_264 (by decide) ?_
  refine lv_iadd hx hb dL_law_265 ?_
  refine mp_top (nI (10 * it + 1)) (nI_add (10 * it) 1) ?_
  refine va_sld hx hb hX hbl hbA hS (nI_in (by omega) (by omega)) dL_law_266 ?_
  refine mp_top (xs (10 * it + 1)) (by rw [nI_clamp (by omega)]) ?_
  refine lv_aload_n hx hb dL_law_267 rfl (lv_at hl 3 rfl) ?_
  refine lv_iload_n hx hb dL_law_268 rfl (lv_at hl 0 rfl) ?_
  refine lv_iconst (v := (2 : Int32)) hx hb dL_law_269 (by decide) ?_
  refine lv_iadd hx hb dL_law_270 ?_
  refine mp_top (nI (10 * it + 2)) (nI_add (10 * it) 2) ?_
  refine va_sld hx hb hX hbl hbA hS (nI_in (by omega) (by omega)) dL_law_271 ?_
  refine mp_top (xs (10 * it + 2)) (by rw [nI_clamp (by omega)]) ?_
  refine lv_aload_n hx hb dL_law_272 rfl (lv_at hl 3 rfl) ?_
  refine lv_iload_n hx hb dL_law_273 rfl (lv_at hl 0 rfl) ?_
  refine lv_iconst (v := (3 : Int32)) hx hb dL_law_274 (by decide) ?_
  refine lv_iadd hx hb dL_law_275 ?_
  refine mp_top (nI (10 * it + 3)) (nI_add (10 * it) 3) ?_
  refine va_sld hx hb hX hbl hbA hS (nI_in (by omega) (by omega)) dL_law_276 ?_
  refine mp_top (xs (10 * it + 3)) (by rw [nI_clamp (by omega)]) ?_
  refine mp_call (va_runV (As := [.int (xs (10 * it + 1)), .int (xs (10 * it + 2)), .int (xs (10 * it + 3))]) (rest := [.int V]) ⟨hx, hb, hml, hown, hts⟩ hr (cwV 3 hts gL_law_X8_near rfl rfl rfl (by decide +kernel) ⟨Nat.le_of_ble_eq_true rfl, Nat.le_of_ble_eq_true rfl⟩) (mp_preV hC hS hM (mp_recv hC.1 hM hO1 (r := (RX8, TX8, 45)) rfl)) rfl rfl hl.1 rfl (lv_room (Nat.le_of_ble_eq_true rfl)) dL_law_277 ⟨by show cells + 0 + 0 ≤ 600000; omega, by show slots + 0 + 0 ≤ 7302250; omega⟩) hS (fun w M2 H locs hp hM hS => ?_)
  obtain ⟨rfl, hI⟩ := hp
  refine mp_stk (st := [.int V, .int V]) rfl ?_
  exact lv_icmp_eq (tgt := 1011) hx hb dL_law_280 (by decide) (fun _ => W.widen (k := cells + 20) (n := slots + 1408) (by omega) (by omega) (kk M2 H locs hI hM hS)) (fun q => absurd rfl q)
theorem law_feed (E : lw_E p s m c b L xs X G A) (hL : L ≤ 5120) (hi : 10 * it + 10 ≤ L) (hI : INV G X M bq h) (hM : mp_P G.1 A M H) (hS : va_S A s.heap H locs) (hl : lv_has ls 4 [(3, .int (nI (10 * it))), (2, .ref h), (1, .ref bq), (0, .ref b)]) (hc : cells + 20 ≤ 600000) (hs : slots + 1408 ≤ 7302250)
    (kk : ∀ (M : mp_M) (H : Heap) (locs : List Loc), INV G X M bq h → mp_P G.1 A M H → va_S A s.heap H locs → W p l e room_1 s m #[Value.ref b] below meth c H locs (cells + 20) (slots + 1408) Q (F0 m 1011 ls [])) : W p l e room_1 s m #[Value.ref b] below meth c H locs cells slots Q (F0 m 285 ls []) := by
  obtain ⟨hx, hb, hml, hown, hts, hX, hbl, hbA, hC⟩ := E
  obtain ⟨fs, hO⟩ := lw_O hI
  refine lv_aload_n hx hb dL_law_285 rfl (lv_at hl 2 rfl) ?_
  refine lv_aload_n hx hb dL_law_286 rfl (lv_at hl 3 rfl) ?_
  refine lv_iload_n hx hb dL_law_287 rfl (lv_at hl 0 rfl) ?_
  refine lv_iconst (v := (1 : Int32)) hx hb dL_law_288 (by decide) ?_
  refine lv_iadd hx hb dL_law_289 ?_
  refine mp_top (nI (10 * it + 1)) (nI_add (10 * it) 1) ?_
  refine va_sld hx hb hX hbl hbA hS (nI_in (by omega) (by omega)) dL_law_290 ?_
  refine mp_top (xs (10 * it + 1)) (by rw [nI_clamp (by omega)]) ?_
  refine lv_aload_n hx hb dL_law_291 rfl (lv_at hl 3 rfl) ?_
  refine lv_iload_n hx hb dL_law_292 rfl (lv_at hl 0 rfl) ?_
  refine lv_iconst (v := (2 : Int32)) hx hb dL_law_293 (by decide) ?_
  refine lv_iadd hx hb dL_law_294 ?_
  refine mp_top (nI (10 * it + 2)) (nI_add (10 * it) 2) ?_
  refine va_sld hx hb hX hbl hbA hS (nI_in (by omega) (by omega)) dL_law_295 ?_
  refine mp_top (xs (10 * it + 2)) (by rw [nI_clamp (by omega)]) ?_
  refine lv_aload_n hx hb dL_law_296 rfl (lv_at hl 3 rfl) ?_
  refine lv_iload_n hx hb dL_law_297 rfl (lv_at hl 0 rfl) ?_
  refine lv_iconst (v := (3 : Int32)) hx hb dL_law_298 (by decide) ?_
  refine lv_iadd hx hb dL_law_299 ?_
  refine mp_top (nI (10 * it + 3)) (nI_add (10 * it) 3) ?_
  refine va_sld hx hb hX hbl hbA hS (nI_in (by omega) (by omega)) dL_law_300 ?_
  refine mp_top (xs (10 * it + 3)) (by rw [nI_clamp (by omega)]) ?_
  refine lv_aload_n hx hb dL_law_301 rfl (lv_at hl 3 rfl) ?_
  refine lv_iload_n hx hb dL_law_302 rfl (lv_at hl 0 rfl) ?_
  refine lv_iconst (v := (4 : Int32)) hx hb dL_law_303 (by decide) ?_
  refine lv_iadd hx hb dL_law_304 ?_
  refine mp_top (nI (10 * it + 4)) (nI_add (10 * it) 4) ?_
  refine va_sld hx hb hX hbl hbA hS (nI_in (by omega) (by omega)) dL_law_305 ?_
  refine mp_top (xs (10 * it + 4)) (by rw [nI_clamp (by omega)]) ?_
  refine lv_aload_n hx hb dL_law_306 rfl (lv_at hl 3 rfl) ?_
  refine lv_iload_n hx hb dL_law_307 rfl (lv_at hl 0 rfl) ?_
  refine lv_iconst (v := (5 : Int32)) hx hb dL_law_308 (by decide) ?_
  refine lv_iadd hx hb dL_law_309 ?_
  refine mp_top (nI (10 * it + 5)) (nI_add (10 * it) 5) ?_
  refine va_sld hx hb hX hbl hbA hS (nI_in (by omega) (by omega)) dL_law_310 ?_
  refine mp_top (xs (10 * it + 5)) (by rw [nI_clamp (by omega)]) ?_
  refine mp_call (va_runV (As := [.int (xs (10 * it + 1)), .int (xs (10 * it + 2)), .int (xs (10 * it + 3)), .int (xs (10 * it + 4)), .int (xs (10 * it + 5))]) (rest := []) ⟨hx, hb, hml, hown, hts⟩ (pr_feed l X G A M bq h hI (xs (10 * it + 1)) (xs (10 * it + 2)) (xs (10 * it + 3)) (xs (10 * it + 4)) (xs (10 * it + 5))) (cwV 5 hts gL_law_X7_feed rfl rfl rfl (by decide +kernel) ⟨Nat.le_of_ble_eq_true rfl, Nat.le_of_ble_eq_true rfl⟩) (mp_preV hC hS hM (mp_recv hC.1 hM hO (r := (RX7, TX7, 9)) rfl)) rfl rfl hl.1 rfl (lv_room (Nat.le_of_ble_eq_true rfl)) dL_law_311 ⟨by show cells + 0 ≤ 600000; omega, by show slots + 0 ≤ 7302250; omega⟩) hS (fun v M1 H locs hp hM hS => ?_)
  obtain ⟨V, rfl, ⟨fs1, hO1⟩, hr⟩ := hp
  refine mp_stk (st := [.int V]) rfl ?_
  refine lv_aload_n hx hb dL_law_314 rfl (lv_at hl 1 rfl) ?_
  refine lv_aload_n hx hb dL_law_315 rfl (lv_at hl 3 rfl) ?_
  refine lv_iload_n hx hb dL_law_316 rfl (lv_at hl 0 rfl) ?_
  refine lv_iconst (v := (1 : Int32)) hx hb dL_law_317 (by decide) ?_
  refine lv_iadd hx hb dL_law_318 ?_
  refine mp_top (nI (10 * it + 1)) (nI_add (10 * it) 1) ?_
  refine va_sld hx hb hX hbl hbA hS (nI_in (by omega) (by omega)) dL_law_319 ?_
  refine mp_top (xs (10 * it + 1)) (by rw [nI_clamp (by omega)]) ?_
  refine lv_aload_n hx hb dL_law_320 rfl (lv_at hl 3 rfl) ?_
  refine lv_iload_n hx hb dL_law_321 rfl (lv_at hl 0 rfl) ?_
  refine lv_iconst (v := (2 : Int32)) hx hb dL_law_322 (by decide) ?_
  refine lv_iadd hx hb dL_law_323 ?_
  refine mp_top (nI (10 * it + 2)) (nI_add (10 * it) 2) ?_
  refine va_sld hx hb hX hbl hbA hS (nI_in (by omega) (by omega)) dL_law_324 ?_
  refine mp_top (xs (10 * it + 2)) (by rw [nI_clamp (by omega)]) ?_
  refine lv_aload_n hx hb dL_law_325 rfl (lv_at hl 3 rfl) ?_
  refine lv_iload_n hx hb dL_law_326 rfl (lv_at hl 0 rfl) ?_
  refine lv_iconst (v := (3 : Int32)) hx hb dL_law_327 (by decide) ?_
  refine lv_iadd hx hb dL_law_328 ?_
  refine mp_top (nI (10 * it + 3)) (nI_add (10 * it) 3) ?_
  refine va_sld hx hb hX hbl hbA hS (nI_in (by omega) (by omega)) dL_law_329 ?_
  refine mp_top (xs (10 * it + 3)) (by rw [nI_clamp (by omega)]) ?_
  refine lv_aload_n hx hb dL_law_330 rfl (lv_at hl 3 rfl) ?_
  refine lv_iload_n hx hb dL_law_331 rfl (lv_at hl 0 rfl) ?_
  refine lv_iconst (v := (4 : Int32)) hx hb dL_law_332 (by decide) ?_
  refine lv_iadd hx hb dL_law_333 ?_
  refine mp_top (nI (10 * it + 4)) (nI_add (10 * it) 4) ?_
  refine va_sld hx hb hX hbl hbA hS (nI_in (by omega) (by omega)) dL_law_334 ?_
  refine mp_top (xs (10 * it + 4)) (by rw [nI_clamp (by omega)]) ?_
  refine lv_aload_n hx hb dL_law_335 rfl (lv_at hl 3 rfl) ?_
  refine lv_iload_n hx hb dL_law_336 rfl (lv_at hl 0 rfl) ?_
  refine lv_iconst (v := (5 : Int32)) hx hb dL_law_337 (by decide) ?_
  refine lv_iadd hx hb dL_law_338 ?_
  refine mp_top (nI (10 * it + 5)) (nI_add (10 * it) 5) ?_
  refine va_sld hx hb hX hbl hbA hS (nI_in (by omega) (by omega)) dL_law_339 ?_
  refine mp_top (xs (10 * it + 5)) (by rw [nI_clamp (by omega)]) ?_
  refine mp_call (va_runV (As := [.int (xs (10 * it + 1)), .int (xs (10 * it + 2)), .int (xs (10 * it + 3)), .int (xs (10 * it + 4)), .int (xs (10 * it + 5))]) (rest := [.int V]) ⟨hx, hb, hml, hown, hts⟩ hr (cwV 5 hts gL_law_X8_feed rfl rfl rfl (by decide +kernel) ⟨Nat.le_of_ble_eq_true rfl, Nat.le_of_ble_eq_true rfl⟩) (mp_preV hC hS hM (mp_recv hC.1 hM hO1 (r := (RX8, TX8, 45)) rfl)) rfl rfl hl.1 rfl (lv_room (Nat.le_of_ble_eq_true rfl)) dL_law_340 ⟨by show cells + 0 + 0 ≤ 600000; omega, by show slots + 0 + 0 ≤ 7302250; omega⟩) hS (fun w M2 H locs hp hM hS => ?_)
  obtain ⟨rfl, hI⟩ := hp
  refine mp_stk (st := [.int V, .int V]) rfl ?_
  exact lv_icmp_eq (tgt := 1011) hx hb dL_law_343 (by decide) (fun _ => W.widen (k := cells + 20) (n := slots + 1408) (by omega) (by omega) (kk M2 H locs hI hM hS)) (fun q => absurd rfl q)
theorem law_adopt (E : lw_E p s m c b L xs X G A) (hL : L ≤ 5120) (hi : 10 * it + 10 ≤ L) (hI : INV G X M bq h) (hM : mp_P G.1 A M H) (hS : va_S A s.heap H locs) (hl : lv_has ls 4 [(3, .int (nI (10 * it))), (2, .ref h), (1, .ref bq), (0, .ref b)]) (hc : cells + 20 ≤ 600000) (hs : slots + 1408 ≤ 7302250)
    (kk : ∀ (M : mp_M) (H : Heap) (locs : List Loc), INV G X M bq h → mp_P G.1 A M H → va_S A s.heap H locs → W p l e room_1 s m #[Value.ref b] below meth c H locs (cells + 20) (slots + 1408) Q (F0 m 1011 ls [])) : W p l e room_1 s m #[Value.ref b] below meth c H locs cells slots Q (F0 m 348 ls []) := by
  obtain ⟨hx, hb, hml, hown, hts, hX, hbl, hbA, hC⟩ := E
  obtain ⟨fs, hO⟩ := lw_O hI
  refine lv_aload_n hx hb dL_law_348 rfl (lv_at hl 2 rfl) ?_
  refine lv_aload_n hx hb dL_law_349 rfl (lv_at hl 3 rfl) ?_
  refine lv_iload_n hx hb dL_law_350 rfl (lv_at hl 0 rfl) ?_
  refine lv_iconst (v := (1 : Int32)) hx hb dL_law_351 (by decide) ?_
  refine lv_iadd hx hb dL_law_352 ?_
  refine mp_top (nI (10 * it + 1)) (nI_add (10 * it) 1) ?_
  refine va_sld hx hb hX hbl hbA hS (nI_in (by omega) (by omega)) dL_law_353 ?_
  refine mp_top (xs (10 * it + 1)) (by rw [nI_clamp (by omega)]) ?_
  refine lv_aload_n hx hb dL_law_354 rfl (lv_at hl 3 rfl) ?_
  refine lv_iload_n hx hb dL_law_355 rfl (lv_at hl 0 rfl) ?_
  refine lv_iconst (v := (2 : Int32)) hx hb dL_law_356 (by decide) ?_
  refine lv_iadd hx hb dL_law_357 ?_
  refine mp_top (nI (10 * it + 2)) (nI_add (10 * it) 2) ?_
  refine va_sld hx hb hX hbl hbA hS (nI_in (by omega) (by omega)) dL_law_358 ?_
  refine mp_top (xs (10 * it + 2)) (by rw [nI_clamp (by omega)]) ?_
  refine mp_call (va_runV (As := [.int (xs (10 * it + 1)), .int (xs (10 * it + 2))]) (rest := []) ⟨hx, hb, hml, hown, hts⟩ (pr_adopt l X G A M bq h hI (xs (10 * it + 1)) (xs (10 * it + 2))) (cwV 2 hts gL_law_X7_adopt rfl rfl rfl (by decide +kernel) ⟨Nat.le_of_ble_eq_true rfl, Nat.le_of_ble_eq_true rfl⟩) (mp_preV hC hS hM (mp_recv hC.1 hM hO (r := (RX7, TX7, 9)) rfl)) rfl rfl hl.1 rfl (lv_room (Nat.le_of_ble_eq_true rfl)) dL_law_359 ⟨by show cells + 20 ≤ 600000; omega, by show slots + 1408 ≤ 7302250; omega⟩) hS (fun v M1 H locs hp hM hS => ?_)
  obtain ⟨V, rfl, ⟨fs1, hO1⟩, hr⟩ := hp
  refine mp_stk (st := [.int V]) rfl ?_
  refine lv_aload_n hx hb dL_law_362 rfl (lv_at hl 1 rfl) ?_
  refine lv_aload_n hx hb dL_law_363 rfl (lv_at hl 3 rfl) ?_
  refine lv_iload_n hx hb dL_law_364 rfl (lv_at hl 0 rfl) ?_
  refine lv_iconst (v := (1 : Int32)) hx hb dL_law_365 (by decide) ?_
  refine lv_iadd hx hb dL_law_366 ?_
  refine mp_top (nI (10 * it + 1)) (nI_add (10 * it) 1) ?_
  refine va_sld hx hb hX hbl hbA hS (nI_in (by omega) (by omega)) dL_law_367 ?_
  refine mp_top (xs (10 * it + 1)) (by rw [nI_clamp (by omega)]) ?_
  refine lv_aload_n hx hb dL_law_368 rfl (lv_at hl 3 rfl) ?_
  refine lv_iload_n hx hb dL_law_369 rfl (lv_at hl 0 rfl) ?_
  refine lv_iconst (v := (2 : Int32)) hx hb dL_law_370 (by decide) ?_
  refine lv_iadd hx hb dL_law_371 ?_
  refine mp_top (nI (10 * it + 2)) (nI_add (10 * it) 2) ?_
  refine va_sld hx hb hX hbl hbA hS (nI_in (by omega) (by omega)) dL_law_372 ?_
  refine mp_top (xs (10 * it + 2)) (by rw [nI_clamp (by omega)]) ?_
  refine mp_call (va_runV (As := [.int (xs (10 * it + 1)), .int (xs (10 * it + 2))]) (rest := [.int V]) ⟨hx, hb, hml, hown, hts⟩ hr (cwV 2 hts gL_law_X8_adopt rfl rfl rfl (by decide +kernel) ⟨Nat.le_of_ble_eq_true rfl, Nat.le_of_ble_eq_true rfl⟩) (mp_preV hC hS hM (mp_recv hC.1 hM hO1 (r := (RX8, TX8, 45)) rfl)) rfl rfl hl.1 rfl (lv_room (Nat.le_of_ble_eq_true rfl)) dL_law_373 ⟨by show cells + 20 + 0 ≤ 600000; omega, by show slots + 1408 + 0 ≤ 7302250; omega⟩) hS (fun w M2 H locs hp hM hS => ?_)
  obtain ⟨rfl, hI⟩ := hp
  refine mp_stk (st := [.int V, .int V]) rfl ?_
  exact lv_icmp_eq (tgt := 1011) hx hb dL_law_376 (by decide) (fun _ => W.widen (k := cells + 20) (n := slots + 1408) (by omega) (by omega) (kk M2 H locs hI hM hS)) (fun q => absurd rfl q)
theorem law_fault (E : lw_E p s m c b L xs X G A) (hL : L ≤ 5120) (hi : 10 * it + 10 ≤ L) (hI : INV G X M bq h) (hM : mp_P G.1 A M H) (hS : va_S A s.heap H locs) (hl : lv_has ls 4 [(3, .int (nI (10 * it))), (2, .ref h), (1, .ref bq), (0, .ref b)]) (hc : cells + 20 ≤ 600000) (hs : slots + 1408 ≤ 7302250)
    (kk : ∀ (M : mp_M) (H : Heap) (locs : List Loc), INV G X M bq h → mp_P G.1 A M H → va_S A s.heap H locs → W p l e room_1 s m #[Value.ref b] below meth c H locs (cells + 20) (slots + 1408) Q (F0 m 1011 ls [])) : W p l e room_1 s m #[Value.ref b] below meth c H locs cells slots Q (F0 m 381 ls []) := by
  obtain ⟨hx, hb, hml, hown, hts, hX, hbl, hbA, hC⟩ := E
  obtain ⟨fs, hO⟩ := lw_O hI
  refine lv_aload_n hx hb dL_law_381 rfl (lv_at hl 2 rfl) ?_
  refine mp_call (va_runV (As := []) (rest := []) ⟨hx, hb, hml, hown, hts⟩ (pr_fault l X G A M bq h hI) (cwV 0 hts gL_law_X7_fault rfl rfl rfl (by decide +kernel) ⟨Nat.le_of_ble_eq_true rfl, Nat.le_of_ble_eq_true rfl⟩) (mp_preV hC hS hM (mp_recv hC.1 hM hO (r := (RX7, TX7, 9)) rfl)) rfl rfl hl.1 rfl (lv_room (Nat.le_of_ble_eq_true rfl)) dL_law_382 ⟨by show cells + 0 ≤ 600000; omega, by show slots + 0 ≤ 7302250; omega⟩) hS (fun v M1 H locs hp hM hS => ?_)
  obtain ⟨V, rfl, ⟨fs1, hO1⟩, hr⟩ := hp
  refine mp_stk (st := [.int V]) rfl ?_
  refine lv_aload_n hx hb dL_law_385 rfl (lv_at hl 1 rfl) ?_
  refine mp_call (va_runV (As := []) (rest := [.int V]) ⟨hx, hb, hml, hown, hts⟩ hr (cwV 0 hts gL_law_X8_fault rfl rfl rfl (by decide +kernel) ⟨Nat.le_of_ble_eq_true rfl, Nat.le_of_ble_eq_true rfl⟩) (mp_preV hC hS hM (mp_recv hC.1 hM hO1 (r := (RX8, TX8, 45)) rfl)) rfl rfl hl.1 rfl (lv_room (Nat.le_of_ble_eq_true rfl)) dL_law_386 ⟨by show cells + 0 + 0 ≤ 600000; omega, by show slots + 0 + 0 ≤ 7302250; omega⟩) hS (fun w M2 H locs hp hM hS => ?_)
  obtain ⟨rfl, hI⟩ := hp
  refine mp_stk (st := [.int V, .int V]) rfl ?_
  exact lv_icmp_eq (tgt := 1011) hx hb dL_law_389 (by decide) (fun _ => W.widen (k := cells + 20) (n := slots + 1408) (by omega) (by omega) (kk M2 H locs hI hM hS)) (fun q => absurd rfl q)
theorem law_plan (E : lw_E p s m c b L xs X G A) (hL : L ≤ 5120) (hi : 10 * it + 10 ≤ L) (hI : INV G X M bq h) (hM : mp_P G.1 A M H) (hS : va_S A s.heap H locs) (hl : lv_has ls 4 [(3, .int (nI (10 * it))), (2, .ref h), (1, .ref bq), (0, .ref b)]) (hc : cells + 20 ≤ 600000) (hs : slots + 1408 ≤ 7302250)
    (kk : ∀ (M : mp_M) (H : Heap) (locs : List Loc), INV G X M bq h → mp_P G.1 A M H → va_S A s.heap H locs → W p l e room_1 s m #[Value.ref b] below meth c H locs (cells + 20) (slots + 1408) Q (F0 m 1011 ls [])) : W p l e room_1 s m #[Value.ref b] below meth c H locs cells slots Q (F0 m 394 ls []) := by
  obtain ⟨hx, hb, hml, hown, hts, hX, hbl, hbA, hC⟩ := E
  obtain ⟨fs, hO⟩ := lw_O hI
  refine lv_aload_n hx hb dL_law_394 rfl (lv_at hl 2 rfl) ?_
  refine lv_aload_n hx hb dL_law_395 rfl (lv_at hl 3 rfl) ?_
  refine lv_iload_n hx hb dL_law_396 rfl (lv_at hl 0 rfl) ?_
  refine lv_iconst (v := (1 : Int32)) hx hb dL_law_397 (by decide) ?_
  refine lv_iadd hx hb dL_law_398 ?_
  refine mp_top (nI (10 * it + 1)) (nI_add (10 * it) 1) ?_
  refine va_sld hx hb hX hbl hbA hS (nI_in (by omega) (by omega)) dL_law_399 ?_
  refine mp_top (xs (10 * it + 1)) (by rw [nI_clamp (by omega)]) ?_
  refine lv_aload_n hx hb dL_law_400 rfl (lv_at hl 3 rfl) ?_
  refine lv_iload_n hx hb dL_law_401 rfl (lv_at hl 0 rfl) ?_
  refine lv_iconst (v := (2 : Int32)) hx hb dL_law_402 (by decide) ?_
  refine lv_iadd hx hb dL_law_403 ?_
  refine mp_top (nI (10 * it + 2)) (nI_add (10 * it) 2) ?_
  refine va_sld hx hb hX hbl hbA hS (nI_in (by omega) (by omega)) dL_law_404 ?_
  refine mp_top (xs (10 * it + 2)) (by rw [nI_clamp (by omega)]) ?_
  refine mp_call (va_runV (As := [.int (xs (10 * it + 1)), .int (xs (10 * it + 2))]) (rest := []) ⟨hx, hb, hml, hown, hts⟩ (pr_plan l X G A M bq h hI (xs (10 * it + 1)) (xs (10 * it + 2))) (cwV 2 hts gL_law_X7_plan rfl rfl rfl (by decide +kernel) ⟨Nat.le_of_ble_eq_true rfl, Nat.le_of_ble_eq_true rfl⟩) (mp_preV hC hS hM (mp_recv hC.1 hM hO (r := (RX7, TX7, 9)) rfl)) rfl rfl hl.1 rfl (lv_room (Nat.le_of_ble_eq_true rfl)) dL_law_405 ⟨by show cells + 0 ≤ 600000; omega, by show slots + 0 ≤ 7302250; omega⟩) hS (fun v M1 H locs hp hM hS => ?_)
  obtain ⟨V, rfl, ⟨fs1, hO1⟩, hr⟩ := hp
  refine mp_stk (st := [.int V]) rfl ?_
  refine lv_aload_n hx hb dL_law_408 rfl (lv_at hl 1 rfl) ?_
  refine lv_aload_n hx hb dL_law_409 rfl (lv_at hl 3 rfl) ?_
  refine lv_iload_n hx hb dL_law_410 rfl (lv_at hl 0 rfl) ?_
  refine lv_iconst (v := (1 : Int32)) hx hb dL_law_411 (by decide) ?_
  refine lv_iadd hx hb dL_law_412 ?_
  refine mp_top (nI (10 * it + 1)) (nI_add (10 * it) 1) ?_
  refine va_sld hx hb hX hbl hbA hS (nI_in (by omega) (by omega)) dL_law_413 ?_
  refine mp_top (xs (10 * it + 1)) (by rw [nI_clamp (by omega)]) ?_
  refine lv_aload_n hx hb dL_law_414 rfl (lv_at hl 3 rfl) ?_
  refine lv_iload_n hx hb dL_law_415 rfl (lv_at hl 0 rfl) ?_
  refine lv_iconst (v := (2 : Int32)) hx hb dL_law_416 (by decide) ?_
  refine lv_iadd hx hb dL_law_417 ?_
  refine mp_top (nI (10 * it + 2)) (nI_add (10 * it) 2) ?_
  refine va_sld hx hb hX hbl hbA hS (nI_in (by omega) (by omega)) dL_law_418 ?_
  refine mp_top (xs (10 * it + 2)) (by rw [nI_clamp (by omega)]) ?_
  refine mp_call (va_runV (As := [.int (xs (10 * it + 1)), .int (xs (10 * it + 2))]) (rest := [.int V]) ⟨hx, hb, hml, hown, hts⟩ hr (cwV 2 hts gL_law_X8_plan rfl rfl rfl (by decide +kernel) ⟨Nat.le_of_ble_eq_true rfl, Nat.le_of_ble_eq_true rfl⟩) (mp_preV hC hS hM (mp_recv hC.1 hM hO1 (r := (RX8, TX8, 45)) rfl)) rfl rfl hl.1 rfl (lv_room (Nat.le_of_ble_eq_true rfl)) dL_law_419 ⟨by show cells + 0 + 0 ≤ 600000; omega, by show slots + 0 + 0 ≤ 7302250; omega⟩) hS (fun w M2 H locs hp hM hS => ?_)
  obtain ⟨rfl, hI⟩ := hp
  refine mp_stk (st := [.int V, .int V]) rfl ?_
  exact lv_icmp_eq (tgt := 1011) hx hb dL_law_422 (by decide) (fun _ => W.widen (k := cells + 20) (n := slots + 1408) (by omega) (by omega) (kk M2 H locs hI hM hS)) (fun q => absurd rfl q)
theorem law_zone (E : lw_E p s m c b L xs X G A) (hL : L ≤ 5120) (hi : 10 * it + 10 ≤ L) (hI : INV G X M bq h) (hM : mp_P G.1 A M H) (hS : va_S A s.heap H locs) (hl : lv_has ls 4 [(3, .int (nI (10 * it))), (2, .ref h), (1, .ref bq), (0, .ref b)]) (hc : cells + 20 ≤ 600000) (hs : slots + 1408 ≤ 7302250)
    (kk : ∀ (M : mp_M) (H : Heap) (locs : List Loc), INV G X M bq h → mp_P G.1 A M H → va_S A s.heap H locs → W p l e room_1 s m #[Value.ref b] below meth c H locs (cells + 20) (slots + 1408) Q (F0 m 1011 ls [])) : W p l e room_1 s m #[Value.ref b] below meth c H locs cells slots Q (F0 m 427 ls []) := by
  obtain ⟨hx, hb, hml, hown, hts, hX, hbl, hbA, hC⟩ := E
  obtain ⟨fs, hO⟩ := lw_O hI
  refine lv_aload_n hx hb dL_law_427 rfl (lv_at hl 2 rfl) ?_
  refine lv_aload_n hx hb dL_law_428 rfl (lv_at hl 3 rfl) ?_
  refine lv_iload_n hx hb dL_law_429 rfl (lv_at hl 0 rfl) ?_
  refine lv_iconst (v := (1 : Int32)) hx hb dL_law_430 (by decide) ?_
  refine lv_iadd hx hb dL_law_431 ?_
  refine mp_top (nI (10 * it + 1)) (nI_add (10 * it) 1) ?_
  refine va_sld hx hb hX hbl hbA hS (nI_in (by omega) (by omega)) dL_law_432 ?_
  refine mp_top (xs (10 * it + 1)) (by rw [nI_clamp (by omega)]) ?_
  refine lv_aload_n hx hb dL_law_433 rfl (lv_at hl 3 rfl) ?_
  refine lv_iload_n hx hb dL_law_434 rfl (lv_at hl 0 rfl) ?_
  refine lv_iconst (v := (2 : Int32)) hx hb dL_law_435 (by decide) ?_
  refine lv_iadd hx hb dL_law_436 ?_
  refine mp_top (nI (10 * it + 2)) (nI_add (10 * it) 2) ?_
  refine va_sld hx hb hX hbl hbA hS (nI_in (by omega) (by omega)) dL_law_437 ?_
  refine mp_top (xs (10 * it + 2)) (by rw [nI_clamp (by omega)]) ?_
  refine lv_aload_n hx hb dL_law_438 rfl (lv_at hl 3 rfl) ?_
  refine lv_iload_n hx hb dL_law_439 rfl (lv_at hl 0 rfl) ?_
  refine lv_iconst (v := (3 : Int32)) hx hb dL_law_440 (by decide) ?_
  refine lv_iadd hx hb dL_law_441 ?_
  refine mp_top (nI (10 * it + 3)) (nI_add (10 * it) 3) ?_
  refine va_sld hx hb hX hbl hbA hS (nI_in (by omega) (by omega)) dL_law_442 ?_
  refine mp_top (xs (10 * it + 3)) (by rw [nI_clamp (by omega)]) ?_
  refine mp_call (va_runV (As := [.int (xs (10 * it + 1)), .int (xs (10 * it + 2)), .int (xs (10 * it + 3))]) (rest := []) ⟨hx, hb, hml, hown, hts⟩ (pr_zone l X G A M bq h hI (xs (10 * it + 1)) (xs (10 * it + 2)) (xs (10 * it + 3))) (cwV 3 hts gL_law_X7_zone rfl rfl rfl (by decide +kernel) ⟨Nat.le_of_ble_eq_true rfl, Nat.le_of_ble_eq_true rfl⟩) (mp_preV hC hS hM (mp_recv hC.1 hM hO (r := (RX7, TX7, 9)) rfl)) rfl rfl hl.1 rfl (lv_room (Nat.le_of_ble_eq_true rfl)) dL_law_443 ⟨by show cells + 0 ≤ 600000; omega, by show slots + 0 ≤ 7302250; omega⟩) hS (fun v M1 H locs hp hM hS => ?_)
  obtain ⟨V, rfl, ⟨fs1, hO1⟩, hr⟩ := hp
  refine mp_stk (st := [.int V]) rfl ?_
  refine lv_aload_n hx hb dL_law_446 rfl (lv_at hl 1 rfl) ?_
  refine lv_aload_n hx hb dL_law_447 rfl (lv_at hl 3 rfl) ?_
  refine lv_iload_n hx hb dL_law_448 rfl (lv_at hl 0 rfl) ?_
  refine lv_iconst (v := (1 : Int32)) hx hb dL_law_449 (by decide) ?_
  refine lv_iadd hx hb dL_law_450 ?_
  refine mp_top (nI (10 * it + 1)) (nI_add (10 * it) 1) ?_
  refine va_sld hx hb hX hbl hbA hS (nI_in (by omega) (by omega)) dL_law_451 ?_
  refine mp_top (xs (10 * it + 1)) (by rw [nI_clamp (by omega)]) ?_
  refine lv_aload_n hx hb dL_law_452 rfl (lv_at hl 3 rfl) ?_
  refine lv_iload_n hx hb dL_law_453 rfl (lv_at hl 0 rfl) ?_
  refine lv_iconst (v := (2 : Int32)) hx hb dL_law_454 (by decide) ?_
  refine lv_iadd hx hb dL_law_455 ?_
  refine mp_top (nI (10 * it + 2)) (nI_add (10 * it) 2) ?_
  refine va_sld hx hb hX hbl hbA hS (nI_in (by omega) (by omega)) dL_law_456 ?_
  refine mp_top (xs (10 * it + 2)) (by rw [nI_clamp (by omega)]) ?_
  refine lv_aload_n hx hb dL_law_457 rfl (lv_at hl 3 rfl) ?_
  refine lv_iload_n hx hb dL_law_458 rfl (lv_at hl 0 rfl) ?_
  refine lv_iconst (v := (3 : Int32)) hx hb dL_law_459 (by decide) ?_
  refine lv_iadd hx hb dL_law_460 ?_
  refine mp_top (nI (10 * it + 3)) (nI_add (10 * it) 3) ?_
  refine va_sld hx hb hX hbl hbA hS (nI_in (by omega) (by omega)) dL_law_461 ?_
  refine mp_top (xs (10 * it + 3)) (by rw [nI_clamp (by omega)]) ?_
  refine mp_call (va_runV (As := [.int (xs (10 * it + 1)), .int (xs (10 * it + 2)), .int (xs (10 * it + 3))]) (rest := [.int V]) ⟨hx, hb, hml, hown, hts⟩ hr (cwV 3 hts gL_law_X8_zone rfl rfl rfl (by decide +kernel) ⟨Nat.le_of_ble_eq_true rfl, Nat.le_of_ble_eq_true rfl⟩) (mp_preV hC hS hM (mp_recv hC.1 hM hO1 (r := (RX8, TX8, 45)) rfl)) rfl rfl hl.1 rfl (lv_room (Nat.le_of_ble_eq_true rfl)) dL_law_462 ⟨by show cells + 0 + 0 ≤ 600000; omega, by show slots + 0 + 0 ≤ 7302250; omega⟩) hS (fun w M2 H locs hp hM hS => ?_)
  obtain ⟨rfl, hI⟩ := hp
  refine mp_stk (st := [.int V, .int V]) rfl ?_
  exact lv_icmp_eq (tgt := 1011) hx hb dL_law_465 (by decide) (fun _ => W.widen (k := cells + 20) (n := slots + 1408) (by omega) (by omega) (kk M2 H locs hI hM hS)) (fun q => absurd rfl q)
theorem law_judge (E : lw_E p s m c b L xs X G A) (hL : L ≤ 5120) (hi : 10 * it + 10 ≤ L) (hI : INV G X M bq h) (hM : mp_P G.1 A M H) (hS : va_S A s.heap H locs) (hl : lv_has ls 4 [(3, .int (nI (10 * it))), (2, .ref h), (1, .ref bq), (0, .ref b)]) (hc : cells + 20 ≤ 600000) (hs : slots + 1408 ≤ 7302250)
    (kk : ∀ (M : mp_M) (H : Heap) (locs : List Loc), INV G X M bq h → mp_P G.1 A M H → va_S A s.heap H locs → W p l e room_1 s m #[Value.ref b] below meth c H locs (cells + 20) (slots + 1408) Q (F0 m 1011 ls [])) : W p l e room_1 s m #[Value.ref b] below meth c H locs cells slots Q (F0 m 470 ls []) := by
  obtain ⟨hx, hb, hml, hown, hts, hX, hbl, hbA, hC⟩ := E
  obtain ⟨fs, hO⟩ := lw_O hI
  refine lv_aload_n hx hb dL_law_470 rfl (lv_at hl 2 rfl) ?_
  refine lv_aload_n hx hb dL_law_471 rfl (lv_at hl 3 rfl) ?_
  refine lv_iload_n hx hb dL_law_472 rfl (lv_at hl 0 rfl) ?_
  refine lv_iconst (v := (1 : Int32)) hx hb dL_law_473 (by decide) ?_
  refine lv_iadd hx hb dL_law_474 ?_
  refine mp_top (nI (10 * it + 1)) (nI_add (10 * it) 1) ?_
  refine va_sld hx hb hX hbl hbA hS (nI_in (by omega) (by omega)) dL_law_475 ?_
  refine mp_top (xs (10 * it + 1)) (by rw [nI_clamp (by omega)]) ?_
  refine lv_aload_n hx hb dL_law_476 rfl (lv_at hl 3 rfl) ?_
  refine lv_iload_n hx hb dL_law_477 rfl (lv_at hl 0 rfl) ?_
  refine lv_iconst (v := (2 : Int32)) hx hb dL_law_478 (by decide) ?_
  refine lv_iadd hx hb dL_law_479 ?_
  refine mp_top (nI (10 * it + 2)) (nI_add (10 * it) 2) ?_
  refine va_sld hx hb hX hbl hbA hS (nI_in (by omega) (by omega)) dL_law_480 ?_
  refine mp_top (xs (10 * it + 2)) (by rw [nI_clamp (by omega)]) ?_
  refine lv_aload_n hx hb dL_law_481 rfl (lv_at hl 3 rfl) ?_
  refine lv_iload_n hx hb dL_law_482 rfl (lv_at hl 0 rfl) ?_
  refine lv_iconst (v := (3 : Int32)) hx hb dL_law_483 (by decide) ?_
  refine lv_iadd hx hb dL_law_484 ?_
  refine mp_top (nI (10 * it + 3)) (nI_add (10 * it) 3) ?_
  refine va_sld hx hb hX hbl hbA hS (nI_in (by omega) (by omega)) dL_law_485 ?_
  refine mp_top (xs (10 * it + 3)) (by rw [nI_clamp (by omega)]) ?_
  refine lv_aload_n hx hb dL_law_486 rfl (lv_at hl 3 rfl) ?_
  refine lv_iload_n hx hb dL_law_487 rfl (lv_at hl 0 rfl) ?_
  refine lv_iconst (v := (4 : Int32)) hx hb dL_law_488 (by decide) ?_
  refine lv_iadd hx hb dL_law_489 ?_
  refine mp_top (nI (10 * it + 4)) (nI_add (10 * it) 4) ?_
  refine va_sld hx hb hX hbl hbA hS (nI_in (by omega) (by omega)) dL_law_490 ?_
  refine mp_top (xs (10 * it + 4)) (by rw [nI_clamp (by omega)]) ?_
  refine lv_aload_n hx hb dL_law_491 rfl (lv_at hl 3 rfl) ?_
  refine lv_iload_n hx hb dL_law_492 rfl (lv_at hl 0 rfl) ?_
  refine lv_iconst (v := (5 : Int32)) hx hb dL_law_493 (by decide) ?_
  refine lv_iadd hx hb dL_law_494 ?_
  refine mp_top (nI (10 * it + 5)) (nI_add (10 * it) 5) ?_
  refine va_sld hx hb hX hbl hbA hS (nI_in (by omega) (by omega)) dL_law_495 ?_
  refine mp_top (xs (10 * it + 5)) (by rw [nI_clamp (by omega)]) ?_
  refine lv_aload_n hx hb dL_law_496 rfl (lv_at hl 3 rfl) ?_
  refine lv_iload_n hx hb dL_law_497 rfl (lv_at hl 0 rfl) ?_
  refine lv_bipush (v := (6 : Int32)) hx hb dL_law_498 (by decide) ?_
  refine lv_iadd hx hb dL_law_500 ?_
  refine mp_top (nI (10 * it + 6)) (nI_add (10 * it) 6) ?_
  refine va_sld hx hb hX hbl hbA hS (nI_in (by omega) (by omega)) dL_law_501 ?_
  refine mp_top (xs (10 * it + 6)) (by rw [nI_clamp (by omega)]) ?_
  refine lv_aload_n hx hb dL_law_502 rfl (lv_at hl 3 rfl) ?_
  refine lv_iload_n hx hb dL_law_503 rfl (lv_at hl 0 rfl) ?_
  refine lv_bipush (v := (7 : Int32)) hx hb dL_law_504 (by decide) ?_
  refine lv_iadd hx hb dL_law_506 ?_
  refine mp_top (nI (10 * it + 7)) (nI_add (10 * it) 7) ?_
  refine va_sld hx hb hX hbl hbA hS (nI_in (by omega) (by omega)) dL_law_507 ?_
  refine mp_top (xs (10 * it + 7)) (by rw [nI_clamp (by omega)]) ?_
  refine lv_aload_n hx hb dL_law_508 rfl (lv_at hl 3 rfl) ?_
  refine lv_iload_n hx hb dL_law_509 rfl (lv_at hl 0 rfl) ?_
  refine lv_bipush (v := (8 : Int32)) hx hb dL_law_510 (by decide) ?_
  refine lv_iadd hx hb dL_law_512 ?_
  refine mp_top (nI (10 * it + 8)) (nI_add (10 * it) 8) ?_
  refine va_sld hx hb hX hbl hbA hS (nI_in (by omega) (by omega)) dL_law_513 ?_
  refine mp_top (xs (10 * it + 8)) (by rw [nI_clamp (by omega)]) ?_
  refine lv_aload_n hx hb dL_law_514 rfl (lv_at hl 3 rfl) ?_
  refine lv_iload_n hx hb dL_law_515 rfl (lv_at hl 0 rfl) ?_
  refine lv_bipush (v := (9 : Int32)) hx hb dL_law_516 (by decide) ?_
  refine lv_iadd hx hb dL_law_518 ?_
  refine mp_top (nI (10 * it + 9)) (nI_add (10 * it) 9) ?_
  refine va_sld hx hb hX hbl hbA hS (nI_in (by omega) (by omega)) dL_law_519 ?_
  refine mp_top (xs (10 * it + 9)) (by rw [nI_clamp (by omega)]) ?_
  refine mp_call (va_runV (As := [.int (xs (10 * it + 1)), .int (xs (10 * it + 2)), .int (xs (10 * it + 3)), .int (xs (10 * it + 4)), .int (xs (10 * it + 5)), .int (xs (10 * it + 6)), .int (xs (10 * it + 7)), .int (xs (10 * it + 8)), .int (xs (10 * it + 9))]) (rest := []) ⟨hx, hb, hml, hown, hts⟩ (pr_judge l X G A M bq h hI (xs (10 * it + 1)) (xs (10 * it + 2)) (xs (10 * it + 3)) (xs (10 * it + 4)) (xs (10 * it + 5)) (xs (10 * it + 6)) (xs (10 * it + 7)) (xs (10 * it + 8)) (xs (10 * it + 9))) (cwV 9 hts gL_law_X7_judge rfl rfl rfl (by decide +kernel) ⟨Nat.le_of_ble_eq_true rfl, Nat.le_of_ble_eq_true rfl⟩) (mp_preV hC hS hM (mp_recv hC.1 hM hO (r := (RX7, TX7, 9)) rfl)) rfl rfl hl.1 rfl (lv_room (Nat.le_of_ble_eq_true rfl)) dL_law_520 ⟨by show cells + 1 ≤ 600000; omega, by show slots + 7 ≤ 7302250; omega⟩) hS (fun v M1 H locs hp hM hS => ?_)
  obtain ⟨V, rfl, ⟨fs1, hO1⟩, hr⟩ := hp
  refine mp_stk (st := [.int V]) rfl ?_
  refine lv_aload_n hx hb dL_law_523 rfl (lv_at hl 1 rfl) ?_
  refine lv_aload_n hx hb dL_law_524 rfl (lv_at hl 3 rfl) ?_
  refine lv_iload_n hx hb dL_law_525 rfl (lv_at hl 0 rfl) ?_
  refine lv_iconst (v := (1 : Int32)) hx hb dL_law_526 (by decide) ?_
  refine lv_iadd hx hb dL_law_527 ?_
  refine mp_top (nI (10 * it + 1)) (nI_add (10 * it) 1) ?_
  refine va_sld hx hb hX hbl hbA hS (nI_in (by omega) (by omega)) dL_law_528 ?_
  refine mp_top (xs (10 * it + 1)) (by rw [nI_clamp (by omega)]) ?_
  refine lv_aload_n hx hb dL_law_529 rfl (lv_at hl 3 rfl) ?_
  refine lv_iload_n hx hb dL_law_530 rfl (lv_at hl 0 rfl) ?_
  refine lv_iconst (v := (2 : Int32)) hx hb dL_law_531 (by decide) ?_
  refine lv_iadd hx hb dL_law_532 ?_
  refine mp_top (nI (10 * it + 2)) (nI_add (10 * it) 2) ?_
  refine va_sld hx hb hX hbl hbA hS (nI_in (by omega) (by omega)) dL_law_533 ?_
  refine mp_top (xs (10 * it + 2)) (by rw [nI_clamp (by omega)]) ?_
  refine lv_aload_n hx hb dL_law_534 rfl (lv_at hl 3 rfl) ?_
  refine lv_iload_n hx hb dL_law_535 rfl (lv_at hl 0 rfl) ?_
  refine lv_iconst (v := (3 : Int32)) hx hb dL_law_536 (by decide) ?_
  refine lv_iadd hx hb dL_law_537 ?_
  refine mp_top (nI (10 * it + 3)) (nI_add (10 * it) 3) ?_
  refine va_sld hx hb hX hbl hbA hS (nI_in (by omega) (by omega)) dL_law_538 ?_
  refine mp_top (xs (10 * it + 3)) (by rw [nI_clamp (by omega)]) ?_
  refine lv_aload_n hx hb dL_law_539 rfl (lv_at hl 3 rfl) ?_
  refine lv_iload_n hx hb dL_law_540 rfl (lv_at hl 0 rfl) ?_
  refine lv_iconst (v := (4 : Int32)) hx hb dL_law_541 (by decide) ?_
  refine lv_iadd hx hb dL_law_542 ?_
  refine mp_top (nI (10 * it + 4)) (nI_add (10 * it) 4) ?_
  refine va_sld hx hb hX hbl hbA hS (nI_in (by omega) (by omega)) dL_law_543 ?_
  refine mp_top (xs (10 * it + 4)) (by rw [nI_clamp (by omega)]) ?_
  refine lv_aload_n hx hb dL_law_544 rfl (lv_at hl 3 rfl) ?_
  refine lv_iload_n hx hb dL_law_545 rfl (lv_at hl 0 rfl) ?_
  refine lv_iconst (v := (5 : Int32)) hx hb dL_law_546 (by decide) ?_
  refine lv_iadd hx hb dL_law_547 ?_
  refine mp_top (nI (10 * it + 5)) (nI_add (10 * it) 5) ?_
  refine va_sld hx hb hX hbl hbA hS (nI_in (by omega) (by omega)) dL_law_548 ?_
  refine mp_top (xs (10 * it + 5)) (by rw [nI_clamp (by omega)]) ?_
  refine lv_aload_n hx hb dL_law_549 rfl (lv_at hl 3 rfl) ?_
  refine lv_iload_n hx hb dL_law_550 rfl (lv_at hl 0 rfl) ?_
  refine lv_bipush (v := (6 : Int32)) hx hb dL_law_551 (by decide) ?_
  refine lv_iadd hx hb dL_law_553 ?_
  refine mp_top (nI (10 * it + 6)) (nI_add (10 * it) 6) ?_
  refine va_sld hx hb hX hbl hbA hS (nI_in (by omega) (by omega)) dL_law_554 ?_
  refine mp_top (xs (10 * it + 6)) (by rw [nI_clamp (by omega)]) ?_
  refine lv_aload_n hx hb dL_law_555 rfl (lv_at hl 3 rfl) ?_
  refine lv_iload_n hx hb dL_law_556 rfl (lv_at hl 0 rfl) ?_
  refine lv_bipush (v := (7 : Int32)) hx hb dL_law_557 (by decide) ?_
  refine lv_iadd hx hb dL_law_559 ?_
  refine mp_top (nI (10 * it + 7)) (nI_add (10 * it) 7) ?_
  refine va_sld hx hb hX hbl hbA hS (nI_in (by omega) (by omega)) dL_law_560 ?_
  refine mp_top (xs (10 * it + 7)) (by rw [nI_clamp (by omega)]) ?_
  refine lv_aload_n hx hb dL_law_561 rfl (lv_at hl 3 rfl) ?_
  refine lv_iload_n hx hb dL_law_562 rfl (lv_at hl 0 rfl) ?_
  refine lv_bipush (v := (8 : Int32)) hx hb dL_law_563 (by decide) ?_
  refine lv_iadd hx hb dL_law_565 ?_
  refine mp_top (nI (10 * it + 8)) (nI_add (10 * it) 8) ?_
  refine va_sld hx hb hX hbl hbA hS (nI_in (by omega) (by omega)) dL_law_566 ?_
  refine mp_top (xs (10 * it + 8)) (by rw [nI_clamp (by omega)]) ?_
  refine lv_aload_n hx hb dL_law_567 rfl (lv_at hl 3 rfl) ?_
  refine lv_iload_n hx hb dL_law_568 rfl (lv_at hl 0 rfl) ?_
  refine lv_bipush (v := (9 : Int32)) hx hb dL_law_569 (by decide) ?_
  refine lv_iadd hx hb dL_law_571 ?_
  refine mp_top (nI (10 * it + 9)) (nI_add (10 * it) 9) ?_
  refine va_sld hx hb hX hbl hbA hS (nI_in (by omega) (by omega)) dL_law_572 ?_
  refine mp_top (xs (10 * it + 9)) (by rw [nI_clamp (by omega)]) ?_
  refine mp_call (va_runV (As := [.int (xs (10 * it + 1)), .int (xs (10 * it + 2)), .int (xs (10 * it + 3)), .int (xs (10 * it + 4)), .int (xs (10 * it + 5)), .int (xs (10 * it + 6)), .int (xs (10 * it + 7)), .int (xs (10 * it + 8)), .int (xs (10 * it + 9))]) (rest := [.int V]) ⟨hx, hb, hml, hown, hts⟩ hr (cwV 9 hts gL_law_X8_judge rfl rfl rfl (by decide +kernel) ⟨Nat.le_of_ble_eq_true rfl, Nat.le_of_ble_eq_true rfl⟩) (mp_preV hC hS hM (mp_recv hC.1 hM hO1 (r := (RX8, TX8, 45)) rfl)) rfl rfl hl.1 rfl (lv_room (Nat.le_of_ble_eq_true rfl)) dL_law_573 ⟨by show cells + 1 + 0 ≤ 600000; omega, by show slots + 7 + 0 ≤ 7302250; omega⟩) hS (fun w M2 H locs hp hM hS => ?_)
  obtain ⟨rfl, hI⟩ := hp
  refine mp_stk (st := [.int V, .int V]) rfl ?_
  exact lv_icmp_eq (tgt := 1011) hx hb dL_law_576 (by decide) (fun _ => W.widen (k := cells + 20) (n := slots + 1408) (by omega) (by omega) (kk M2 H locs hI hM hS)) (fun q => absurd rfl q)
theorem law_apply (E : lw_E p s m c b L xs X G A) (hL : L ≤ 5120) (hi : 10 * it + 10 ≤ L) (hI : INV G X M bq h) (hM : mp_P G.1 A M H) (hS : va_S A s.heap H locs) (hl : lv_has ls 4 [(3, .int (nI (10 * it))), (2, .ref h), (1, .ref bq), (0, .ref b)]) (hc : cells + 20 ≤ 600000) (hs : slots + 1408 ≤ 7302250)
    (kk : ∀ (M : mp_M) (H : Heap) (locs : List Loc), INV G X M bq h → mp_P G.1 A M H → va_S A s.heap H locs → W p l e room_1 s m #[Value.ref b] below meth c H locs (cells + 20) (slots + 1408) Q (F0 m 1011 ls [])) : W p l e room_1 s m #[Value.ref b] below meth c H locs cells slots Q (F0 m 581 ls []) := by
  obtain ⟨hx, hb, hml, hown, hts, hX, hbl, hbA, hC⟩ := E
  obtain ⟨fs, hO⟩ := lw_O hI
  refine lv_aload_n hx hb dL_law_581 rfl (lv_at hl 2 rfl) ?_
  refine lv_aload_n hx hb dL_law_582 rfl (lv_at hl 3 rfl) ?_
  refine lv_iload_n hx hb dL_law_583 rfl (lv_at hl 0 rfl) ?_
  refine lv_iconst (v := (1 : Int32)) hx hb dL_law_584 (by decide) ?_
  refine lv_iadd hx hb dL_law_585 ?_
  refine mp_top (nI (10 * it + 1)) (nI_add (10 * it) 1) ?_
  refine va_sld hx hb hX hbl hbA hS (nI_in (by omega) (by omega)) dL_law_586 ?_
  refine mp_top (xs (10 * it + 1)) (by rw [nI_clamp (by omega)]) ?_
  refine lv_aload_n hx hb dL_law_587 rfl (lv_at hl 3 rfl) ?_
  refine lv_iload_n hx hb dL_law_588 rfl (lv_at hl 0 rfl) ?_
  refine lv_iconst (v := (2 : Int32)) hx hb dL_law_589 (by decide) ?_
  refine lv_iadd hx hb dL_law_590 ?_
  refine mp_top (nI (10 * it + 2)) (nI_add (10 * it) 2) ?_
  refine va_sld hx hb hX hbl hbA hS (nI_in (by omega) (by omega)) dL_law_591 ?_
  refine mp_top (xs (10 * it + 2)) (by rw [nI_clamp (by omega)]) ?_
  refine lv_aload_n hx hb dL_law_592 rfl (lv_at hl 3 rfl) ?_
  refine lv_iload_n hx hb dL_law_593 rfl (lv_at hl 0 rfl) ?_
  refine lv_iconst (v := (3 : Int32)) hx hb dL_law_594 (by decide) ?_
  refine lv_iadd hx hb dL_law_595 ?_
  refine mp_top (nI (10 * it + 3)) (nI_add (10 * it) 3) ?_
  refine va_sld hx hb hX hbl hbA hS (nI_in (by omega) (by omega)) dL_law_596 ?_
  refine mp_top (xs (10 * it + 3)) (by rw [nI_clamp (by omega)]) ?_
  refine lv_aload_n hx hb dL_law_597 rfl (lv_at hl 3 rfl) ?_
  refine lv_iload_n hx hb dL_law_598 rfl (lv_at hl 0 rfl) ?_
  refine lv_iconst (v := (4 : Int32)) hx hb dL_law_599 (by decide) ?_
  refine lv_iadd hx hb dL_law_600 ?_
  refine mp_top (nI (10 * it + 4)) (nI_add (10 * it) 4) ?_
  refine va_sld hx hb hX hbl hbA hS (nI_in (by omega) (by omega)) dL_law_601 ?_
  refine mp_top (xs (10 * it + 4)) (by rw [nI_clamp (by omega)]) ?_
  refine lv_aload_n hx hb dL_law_602 rfl (lv_at hl 3 rfl) ?_
  refine lv_iload_n hx hb dL_law_603 rfl (lv_at hl 0 rfl) ?_
  refine lv_iconst (v := (5 : Int32)) hx hb dL_law_604 (by decide) ?_
  refine lv_iadd hx hb dL_law_605 ?_
  refine mp_top (nI (10 * it + 5)) (nI_add (10 * it) 5) ?_
  refine va_sld hx hb hX hbl hbA hS (nI_in (by omega) (by omega)) dL_law_606 ?_
  refine mp_top (xs (10 * it + 5)) (by rw [nI_clamp (by omega)]) ?_
  refine lv_aload_n hx hb dL_law_607 rfl (lv_at hl 3 rfl) ?_
  refine lv_iload_n hx hb dL_law_608 rfl (lv_at hl 0 rfl) ?_
  refine lv_bipush (v := (6 : Int32)) hx hb dL_law_609 (by decide) ?_
  refine lv_iadd hx hb dL_law_611 ?_
  refine mp_top (nI (10 * it + 6)) (nI_add (10 * it) 6) ?_
  refine va_sld hx hb hX hbl hbA hS (nI_in (by omega) (by omega)) dL_law_612 ?_
  refine mp_top (xs (10 * it + 6)) (by rw [nI_clamp (by omega)]) ?_
  refine lv_aload_n hx hb dL_law_613 rfl (lv_at hl 3 rfl) ?_
  refine lv_iload_n hx hb dL_law_614 rfl (lv_at hl 0 rfl) ?_
  refine lv_bipush (v := (7 : Int32)) hx hb dL_law_615 (by decide) ?_
  refine lv_iadd hx hb dL_law_617 ?_
  refine mp_top (nI (10 * it + 7)) (nI_add (10 * it) 7) ?_
  refine va_sld hx hb hX hbl hbA hS (nI_in (by omega) (by omega)) dL_law_618 ?_
  refine mp_top (xs (10 * it + 7)) (by rw [nI_clamp (by omega)]) ?_
  refine mp_call (va_runV (As := [.int (xs (10 * it + 1)), .int (xs (10 * it + 2)), .int (xs (10 * it + 3)), .int (xs (10 * it + 4)), .int (xs (10 * it + 5)), .int (xs (10 * it + 6)), .int (xs (10 * it + 7))]) (rest := []) ⟨hx, hb, hml, hown, hts⟩ (pr_apply l X G A M bq h hI (xs (10 * it + 1)) (xs (10 * it + 2)) (xs (10 * it + 3)) (xs (10 * it + 4)) (xs (10 * it + 5)) (xs (10 * it + 6)) (xs (10 * it + 7))) (cwV 7 hts gL_law_X7_apply rfl rfl rfl (by decide +kernel) ⟨Nat.le_of_ble_eq_true rfl, Nat.le_of_ble_eq_true rfl⟩) (mp_preV hC hS hM (mp_recv hC.1 hM hO (r := (RX7, TX7, 9)) rfl)) rfl rfl hl.1 rfl (lv_room (Nat.le_of_ble_eq_true rfl)) dL_law_619 ⟨by show cells + 3 ≤ 600000; omega, by show slots + 169 ≤ 7302250; omega⟩) hS (fun v M1 H locs hp hM hS => ?_)
  obtain ⟨V, rfl, ⟨fs1, hO1⟩, hr⟩ := hp
  refine mp_stk (st := [.int V]) rfl ?_
  refine lv_aload_n hx hb dL_law_622 rfl (lv_at hl 1 rfl) ?_
  refine lv_aload_n hx hb dL_law_623 rfl (lv_at hl 3 rfl) ?_
  refine lv_iload_n hx hb dL_law_624 rfl (lv_at hl 0 rfl) ?_
  refine lv_iconst (v := (1 : Int32)) hx hb dL_law_625 (by decide) ?_
  refine lv_iadd hx hb dL_law_626 ?_
  refine mp_top (nI (10 * it + 1)) (nI_add (10 * it) 1) ?_
  refine va_sld hx hb hX hbl hbA hS (nI_in (by omega) (by omega)) dL_law_627 ?_
  refine mp_top (xs (10 * it + 1)) (by rw [nI_clamp (by omega)]) ?_
  refine lv_aload_n hx hb dL_law_628 rfl (lv_at hl 3 rfl) ?_
  refine lv_iload_n hx hb dL_law_629 rfl (lv_at hl 0 rfl) ?_
  refine lv_iconst (v := (2 : Int32)) hx hb dL_law_630 (by decide) ?_
  refine lv_iadd hx hb dL_law_631 ?_
  refine mp_top (nI (10 * it + 2)) (nI_add (10 * it) 2) ?_
  refine va_sld hx hb hX hbl hbA hS (nI_in (by omega) (by omega)) dL_law_632 ?_
  refine mp_top (xs (10 * it + 2)) (by rw [nI_clamp (by omega)]) ?_
  refine lv_aload_n hx hb dL_law_633 rfl (lv_at hl 3 rfl) ?_
  refine lv_iload_n hx hb dL_law_634 rfl (lv_at hl 0 rfl) ?_
  refine lv_iconst (v := (3 : Int32)) hx hb dL_law_635 (by decide) ?_
  refine lv_iadd hx hb dL_law_636 ?_
  refine mp_top (nI (10 * it + 3)) (nI_add (10 * it) 3) ?_
  refine va_sld hx hb hX hbl hbA hS (nI_in (by omega) (by omega)) dL_law_637 ?_
  refine mp_top (xs (10 * it + 3)) (by rw [nI_clamp (by omega)]) ?_
  refine lv_aload_n hx hb dL_law_638 rfl (lv_at hl 3 rfl) ?_
  refine lv_iload_n hx hb dL_law_639 rfl (lv_at hl 0 rfl) ?_
  refine lv_iconst (v := (4 : Int32)) hx hb dL_law_640 (by decide) ?_
  refine lv_iadd hx hb dL_law_641 ?_
  refine mp_top (nI (10 * it + 4)) (nI_add (10 * it) 4) ?_
  refine va_sld hx hb hX hbl hbA hS (nI_in (by omega) (by omega)) dL_law_642 ?_
  refine mp_top (xs (10 * it + 4)) (by rw [nI_clamp (by omega)]) ?_
  refine lv_aload_n hx hb dL_law_643 rfl (lv_at hl 3 rfl) ?_
  refine lv_iload_n hx hb dL_law_644 rfl (lv_at hl 0 rfl) ?_
  refine lv_iconst (v := (5 : Int32)) hx hb dL_law_645 (by decide) ?_
  refine lv_iadd hx hb dL_law_646 ?_
  refine mp_top (nI (10 * it + 5)) (nI_add (10 * it) 5) ?_
  refine va_sld hx hb hX hbl hbA hS (nI_in (by omega) (by omega)) dL_law_647 ?_
  refine mp_top (xs (10 * it + 5)) (by rw [nI_clamp (by omega)]) ?_
  refine lv_aload_n hx hb dL_law_648 rfl (lv_at hl 3 rfl) ?_
  refine lv_iload_n hx hb dL_law_649 rfl (lv_at hl 0 rfl) ?_
  refine lv_bipush (v := (6 : Int32)) hx hb dL_law_650 (by decide) ?_
  refine lv_iadd hx hb dL_law_652 ?_
  refine mp_top (nI (10 * it + 6)) (nI_add (10 * it) 6) ?_
  refine va_sld hx hb hX hbl hbA hS (nI_in (by omega) (by omega)) dL_law_653 ?_
  refine mp_top (xs (10 * it + 6)) (by rw [nI_clamp (by omega)]) ?_
  refine lv_aload_n hx hb dL_law_654 rfl (lv_at hl 3 rfl) ?_
  refine lv_iload_n hx hb dL_law_655 rfl (lv_at hl 0 rfl) ?_
  refine lv_bipush (v := (7 : Int32)) hx hb dL_law_656 (by decide) ?_
  refine lv_iadd hx hb dL_law_658 ?_
  refine mp_top (nI (10 * it + 7)) (nI_add (10 * it) 7) ?_
  refine va_sld hx hb hX hbl hbA hS (nI_in (by omega) (by omega)) dL_law_659 ?_
  refine mp_top (xs (10 * it + 7)) (by rw [nI_clamp (by omega)]) ?_
  refine mp_call (va_runV (As := [.int (xs (10 * it + 1)), .int (xs (10 * it + 2)), .int (xs (10 * it + 3)), .int (xs (10 * it + 4)), .int (xs (10 * it + 5)), .int (xs (10 * it + 6)), .int (xs (10 * it + 7))]) (rest := [.int V]) ⟨hx, hb, hml, hown, hts⟩ hr (cwV 7 hts gL_law_X8_apply rfl rfl rfl (by decide +kernel) ⟨Nat.le_of_ble_eq_true rfl, Nat.le_of_ble_eq_true rfl⟩) (mp_preV hC hS hM (mp_recv hC.1 hM hO1 (r := (RX8, TX8, 45)) rfl)) rfl rfl hl.1 rfl (lv_room (Nat.le_of_ble_eq_true rfl)) dL_law_660 ⟨by show cells + 3 + 0 ≤ 600000; omega, by show slots + 169 + 0 ≤ 7302250; omega⟩) hS (fun w M2 H locs hp hM hS => ?_)
  obtain ⟨rfl, hI⟩ := hp
  refine mp_stk (st := [.int V, .int V]) rfl ?_
  exact lv_icmp_eq (tgt := 1011) hx hb dL_law_663 (by decide) (fun _ => W.widen (k := cells + 20) (n := slots + 1408) (by omega) (by omega) (kk M2 H locs hI hM hS)) (fun q => absurd rfl q)
theorem law_object (E : lw_E p s m c b L xs X G A) (hL : L ≤ 5120) (hi : 10 * it + 10 ≤ L) (hI : INV G X M bq h) (hM : mp_P G.1 A M H) (hS : va_S A s.heap H locs) (hl : lv_has ls 4 [(3, .int (nI (10 * it))), (2, .ref h), (1, .ref bq), (0, .ref b)]) (hc : cells + 20 ≤ 600000) (hs : slots + 1408 ≤ 7302250)
    (kk : ∀ (M : mp_M) (H : Heap) (locs : List Loc), INV G X M bq h → mp_P G.1 A M H → va_S A s.heap H locs → W p l e room_1 s m #[Value.ref b] below meth c H locs (cells + 20) (slots + 1408) Q (F0 m 1011 ls [])) : W p l e room_1 s m #[Value.ref b] below meth c H locs cells slots Q (F0 m 668 ls []) := by
  obtain ⟨hx, hb, hml, hown, hts, hX, hbl, hbA, hC⟩ := E
  obtain ⟨fs, hO⟩ := lw_O hI
  refine lv_aload_n hx hb dL_law_668 rfl (lv_at hl 2 rfl) ?_
  refine lv_aload_n hx hb dL_law_669 rfl (lv_at hl 3 rfl) ?_
  refine lv_iload_n hx hb dL_law_670 rfl (lv_at hl 0 rfl) ?_
  refine lv_iconst (v := (1 : Int32)) hx hb dL_law_671 (by decide) ?_
  refine lv_iadd hx hb dL_law_672 ?_
  refine mp_top (nI (10 * it + 1)) (nI_add (10 * it) 1) ?_
  refine va_sld hx hb hX hbl hbA hS (nI_in (by omega) (by omega)) dL_law_673 ?_
  refine mp_top (xs (10 * it + 1)) (by rw [nI_clamp (by omega)]) ?_
  refine lv_aload_n hx hb dL_law_674 rfl (lv_at hl 3 rfl) ?_
  refine lv_iload_n hx hb dL_law_675 rfl (lv_at hl 0 rfl) ?_
  refine lv_iconst (v := (2 : Int32)) hx hb dL_law_676 (by decide) ?_
  refine lv_iadd hx hb dL_law_677 ?_
  refine mp_top (nI (10 * it + 2)) (nI_add (10 * it) 2) ?_
  refine va_sld hx hb hX hbl hbA hS (nI_in (by omega) (by omega)) dL_law_678 ?_
  refine mp_top (xs (10 * it + 2)) (by rw [nI_clamp (by omega)]) ?_
  refine mp_call (va_runV (As := [.int (xs (10 * it + 1)), .int (xs (10 * it + 2))]) (rest := []) ⟨hx, hb, hml, hown, hts⟩ (pr_object l X G A M bq h hI (xs (10 * it + 1)) (xs (10 * it + 2))) (cwV 2 hts gL_law_X7_object rfl rfl rfl (by decide +kernel) ⟨Nat.le_of_ble_eq_true rfl, Nat.le_of_ble_eq_true rfl⟩) (mp_preV hC hS hM (mp_recv hC.1 hM hO (r := (RX7, TX7, 9)) rfl)) rfl rfl hl.1 rfl (lv_room (Nat.le_of_ble_eq_true rfl)) dL_law_679 ⟨by show cells + 0 ≤ 600000; omega, by show slots + 0 ≤ 7302250; omega⟩) hS (fun v M1 H locs hp hM hS => ?_)
  obtain ⟨V, rfl, ⟨fs1, hO1⟩, hr⟩ := hp
  refine mp_stk (st := [.int V]) rfl ?_
  refine lv_aload_n hx hb dL_law_682 rfl (lv_at hl 1 rfl) ?_
  refine lv_aload_n hx hb dL_law_683 rfl (lv_at hl 3 rfl) ?_
  refine lv_iload_n hx hb dL_law_684 rfl (lv_at hl 0 rfl) ?_
  refine lv_iconst (v := (1 : Int32)) hx hb dL_law_685 (by decide) ?_
  refine lv_iadd hx hb dL_law_686 ?_
  refine mp_top (nI (10 * it + 1)) (nI_add (10 * it) 1) ?_
  refine va_sld hx hb hX hbl hbA hS (nI_in (by omega) (by omega)) dL_law_687 ?_
  refine mp_top (xs (10 * it + 1)) (by rw [nI_clamp (by omega)]) ?_
  refine lv_aload_n hx hb dL_law_688 rfl (lv_at hl 3 rfl) ?_
  refine lv_iload_n hx hb dL_law_689 rfl (lv_at hl 0 rfl) ?_
  refine lv_iconst (v := (2 : Int32)) hx hb dL_law_690 (by decide) ?_
  refine lv_iadd hx hb dL_law_691 ?_
  refine mp_top (nI (10 * it + 2)) (nI_add (10 * it) 2) ?_
  refine va_sld hx hb hX hbl hbA hS (nI_in (by omega) (by omega)) dL_law_692 ?_
  refine mp_top (xs (10 * it + 2)) (by rw [nI_clamp (by omega)]) ?_
  refine mp_call (va_runV (As := [.int (xs (10 * it + 1)), .int (xs (10 * it + 2))]) (rest := [.int V]) ⟨hx, hb, hml, hown, hts⟩ hr (cwV 2 hts gL_law_X8_object rfl rfl rfl (by decide +kernel) ⟨Nat.le_of_ble_eq_true rfl, Nat.le_of_ble_eq_true rfl⟩) (mp_preV hC hS hM (mp_recv hC.1 hM hO1 (r := (RX8, TX8, 45)) rfl)) rfl rfl hl.1 rfl (lv_room (Nat.le_of_ble_eq_true rfl)) dL_law_693 ⟨by show cells + 0 + 0 ≤ 600000; omega, by show slots + 0 + 0 ≤ 7302250; omega⟩) hS (fun w M2 H locs hp hM hS => ?_)
  obtain ⟨rfl, hI⟩ := hp
  refine mp_stk (st := [.int V, .int V]) rfl ?_
  exact lv_icmp_eq (tgt := 1011) hx hb dL_law_696 (by decide) (fun _ => W.widen (k := cells + 20) (n := slots + 1408) (by omega) (by omega) (kk M2 H locs hI hM hS)) (fun q => absurd rfl q)
theorem law_decide (E : lw_E p s m c b L xs X G A) (hL : L ≤ 5120) (hi : 10 * it + 10 ≤ L) (hI : INV G X M bq h) (hM : mp_P G.1 A M H) (hS : va_S A s.heap H locs) (hl : lv_has ls 4 [(3, .int (nI (10 * it))), (2, .ref h), (1, .ref bq), (0, .ref b)]) (hc : cells + 20 ≤ 600000) (hs : slots + 1408 ≤ 7302250)
    (kk : ∀ (M : mp_M) (H : Heap) (locs : List Loc), INV G X M bq h → mp_P G.1 A M H → va_S A s.heap H locs → W p l e room_1 s m #[Value.ref b] below meth c H locs (cells + 20) (slots + 1408) Q (F0 m 1011 ls [])) : W p l e room_1 s m #[Value.ref b] below meth c H locs cells slots Q (F0 m 701 ls []) := by
  obtain ⟨hx, hb, hml, hown, hts, hX, hbl, hbA, hC⟩ := E
  obtain ⟨fs, hO⟩ := lw_O hI
  refine lv_aload_n hx hb dL_law_701 rfl (lv_at hl 2 rfl) ?_
  refine lv_aload_n hx hb dL_law_702 rfl (lv_at hl 3 rfl) ?_
  refine lv_iload_n hx hb dL_law_703 rfl (lv_at hl 0 rfl) ?_
  refine lv_iconst (v := (1 : Int32)) hx hb dL_law_704 (by decide) ?_
  refine lv_iadd hx hb dL_law_705 ?_
  refine mp_top (nI (10 * it + 1)) (nI_add (10 * it) 1) ?_
  refine va_sld hx hb hX hbl hbA hS (nI_in (by omega) (by omega)) dL_law_706 ?_
  refine mp_top (xs (10 * it + 1)) (by rw [nI_clamp (by omega)]) ?_
  refine mp_call (va_runV (As := [.int (xs (10 * it + 1))]) (rest := []) ⟨hx, hb, hml, hown, hts⟩ (pr_decide l X G A M bq h hI (xs (10 * it + 1))) (cwV 1 hts gL_law_X7_decide rfl rfl rfl (by decide +kernel) ⟨Nat.le_of_ble_eq_true rfl, Nat.le_of_ble_eq_true rfl⟩) (mp_preV hC hS hM (mp_recv hC.1 hM hO (r := (RX7, TX7, 9)) rfl)) rfl rfl hl.1 rfl (lv_room (Nat.le_of_ble_eq_true rfl)) dL_law_707 ⟨by show cells + 0 ≤ 600000; omega, by show slots + 0 ≤ 7302250; omega⟩) hS (fun v M1 H locs hp hM hS => ?_)
  obtain ⟨V, rfl, ⟨fs1, hO1⟩, hr⟩ := hp
  refine mp_stk (st := [.int V]) rfl ?_
  refine lv_aload_n hx hb dL_law_710 rfl (lv_at hl 1 rfl) ?_
  refine lv_aload_n hx hb dL_law_711 rfl (lv_at hl 3 rfl) ?_
  refine lv_iload_n hx hb dL_law_712 rfl (lv_at hl 0 rfl) ?_
  refine lv_iconst (v := (1 : Int32)) hx hb dL_law_713 (by decide) ?_
  refine lv_iadd hx hb dL_law_714 ?_
  refine mp_top (nI (10 * it + 1)) (nI_add (10 * it) 1) ?_
  refine va_sld hx hb hX hbl hbA hS (nI_in (by omega) (by omega)) dL_law_715 ?_
  refine mp_top (xs (10 * it + 1)) (by rw [nI_clamp (by omega)]) ?_
  refine mp_call (va_runV (As := [.int (xs (10 * it + 1))]) (rest := [.int V]) ⟨hx, hb, hml, hown, hts⟩ hr (cwV 1 hts gL_law_X8_decide rfl rfl rfl (by decide +kernel) ⟨Nat.le_of_ble_eq_true rfl, Nat.le_of_ble_eq_true rfl⟩) (mp_preV hC hS hM (mp_recv hC.1 hM hO1 (r := (RX8, TX8, 45)) rfl)) rfl rfl hl.1 rfl (lv_room (Nat.le_of_ble_eq_true rfl)) dL_law_716 ⟨by show cells + 0 + 0 ≤ 600000; omega, by show slots + 0 + 0 ≤ 7302250; omega⟩) hS (fun w M2 H locs hp hM hS => ?_)
  obtain ⟨rfl, hI⟩ := hp
  refine mp_stk (st := [.int V, .int V]) rfl ?_
  exact lv_icmp_eq (tgt := 1011) hx hb dL_law_719 (by decide) (fun _ => W.widen (k := cells + 20) (n := slots + 1408) (by omega) (by omega) (kk M2 H locs hI hM hS)) (fun q => absurd rfl q)
theorem law_build (E : lw_E p s m c b L xs X G A) (hL : L ≤ 5120) (hi : 10 * it + 10 ≤ L) (hI : INV G X M bq h) (hM : mp_P G.1 A M H) (hS : va_S A s.heap H locs) (hl : lv_has ls 4 [(3, .int (nI (10 * it))), (2, .ref h), (1, .ref bq), (0, .ref b)]) (hc : cells + 20 ≤ 600000) (hs : slots + 1408 ≤ 7302250)
    (kk : ∀ (M : mp_M) (H : Heap) (locs : List Loc), INV G X M bq h → mp_P G.1 A M H → va_S A s.heap H locs → W p l e room_1 s m #[Value.ref b] below meth c H locs (cells + 20) (slots + 1408) Q (F0 m 1011 ls [])) : W p l e room_1 s m #[Value.ref b] below meth c H locs cells slots Q (F0 m 724 ls []) := by
  obtain ⟨hx, hb, hml, hown, hts, hX, hbl, hbA, hC⟩ := E
  obtain ⟨fs, hO⟩ := lw_O hI
  refine lv_aload_n hx hb dL_law_724 rfl (lv_at hl 2 rfl) ?_
  refine lv_aload_n hx hb dL_law_725 rfl (lv_at hl 3 rfl) ?_
  refine lv_iload_n hx hb dL_law_726 rfl (lv_at hl 0 rfl) ?_
  refine lv_iconst (v := (1 : Int32)) hx hb dL_law_727 (by decide) ?_
  refine lv_iadd hx hb dL_law_728 ?_
  refine mp_top (nI (10 * it + 1)) (nI_add (10 * it) 1) ?_
  refine va_sld hx hb hX hbl hbA hS (nI_in (by omega) (by omega)) dL_law_729 ?_
  refine mp_top (xs (10 * it + 1)) (by rw [nI_clamp (by omega)]) ?_
  refine mp_call (va_runV (As := [.int (xs (10 * it + 1))]) (rest := []) ⟨hx, hb, hml, hown, hts⟩ (pr_build l X G A M bq h hI (xs (10 * it + 1))) (cwV 1 hts gL_law_X7_build rfl rfl rfl (by decide +kernel) ⟨Nat.le_of_ble_eq_true rfl, Nat.le_of_ble_eq_true rfl⟩) (mp_preV hC hS hM (mp_recv hC.1 hM hO (r := (RX7, TX7, 9)) rfl)) rfl rfl hl.1 rfl (lv_room (Nat.le_of_ble_eq_true rfl)) dL_law_730 ⟨by show cells + 0 ≤ 600000; omega, by show slots + 0 ≤ 7302250; omega⟩) hS (fun v M1 H locs hp hM hS => ?_)
  obtain ⟨V, rfl, ⟨fs1, hO1⟩, hr⟩ := hp
  refine mp_stk (st := [.int V]) rfl ?_
  refine lv_aload_n hx hb dL_law_733 rfl (lv_at hl 1 rfl) ?_
  refine lv_aload_n hx hb dL_law_734 rfl (lv_at hl 3 rfl) ?_
  refine lv_iload_n hx hb dL_law_735 rfl (lv_at hl 0 rfl) ?_
  refine lv_iconst (v := (1 : Int32)) hx hb dL_law_736 (by decide) ?_
  refine lv_iadd hx hb dL_law_737 ?_
  refine mp_top (nI (10 * it + 1)) (nI_add (10 * it) 1) ?_
  refine va_sld hx hb hX hbl hbA hS (nI_in (by omega) (by omega)) dL_law_738 ?_
  refine mp_top (xs (10 * it + 1)) (by rw [nI_clamp (by omega)]) ?_
  refine mp_call (va_runV (As := [.int (xs (10 * it + 1))]) (rest := [.int V]) ⟨hx, hb, hml, hown, hts⟩ hr (cwV 1 hts gL_law_X8_build rfl rfl rfl (by decide +kernel) ⟨Nat.le_of_ble_eq_true rfl, Nat.le_of_ble_eq_true rfl⟩) (mp_preV hC hS hM (mp_recv hC.1 hM hO1 (r := (RX8, TX8, 45)) rfl)) rfl rfl hl.1 rfl (lv_room (Nat.le_of_ble_eq_true rfl)) dL_law_739 ⟨by show cells + 0 + 0 ≤ 600000; omega, by show slots + 0 + 0 ≤ 7302250; omega⟩) hS (fun w M2 H locs hp hM hS => ?_)
  obtain ⟨rfl, hI⟩ := hp
  refine mp_stk (st := [.int V, .int V]) rfl ?_
  exact lv_icmp_eq (tgt := 1011) hx hb dL_law_742 (by decide) (fun _ => W.widen (k := cells + 20) (n := slots + 1408) (by omega) (by omega) (kk M2 H locs hI hM hS)) (fun q => absurd rfl q)
theorem law_appeal (E : lw_E p s m c b L xs X G A) (hL : L ≤ 5120) (hi : 10 * it + 10 ≤ L) (hI : INV G X M bq h) (hM : mp_P G.1 A M H) (hS : va_S A s.heap H locs) (hl : lv_has ls 4 [(3, .int (nI (10 * it))), (2, .ref h), (1, .ref bq), (0, .ref b)]) (hc : cells + 20 ≤ 600000) (hs : slots + 1408 ≤ 7302250)
    (kk : ∀ (M : mp_M) (H : Heap) (locs : List Loc), INV G X M bq h → mp_P G.1 A M H → va_S A s.heap H locs → W p l e room_1 s m #[Value.ref b] below meth c H locs (cells + 20) (slots + 1408) Q (F0 m 1011 ls [])) : W p l e room_1 s m #[Value.ref b] below meth c H locs cells slots Q (F0 m 747 ls []) := by
  obtain ⟨hx, hb, hml, hown, hts, hX, hbl, hbA, hC⟩ := E
  obtain ⟨fs, hO⟩ := lw_O hI
  refine lv_aload_n hx hb dL_law_747 rfl (lv_at hl 2 rfl) ?_
  refine lv_aload_n hx hb dL_law_748 rfl (lv_at hl 3 rfl) ?_
  refine lv_iload_n hx hb dL_law_749 rfl (lv_at hl 0 rfl) ?_
  refine lv_iconst (v := (1 : Int32)) hx hb dL_law_750 (by decide) ?_
  refine lv_iadd hx hb dL_law_751 ?_
  refine mp_top (nI (10 * it + 1)) (nI_add (10 * it) 1) ?_
  refine va_sld hx hb hX hbl hbA hS (nI_in (by omega) (by omega)) dL_law_752 ?_
  refine mp_top (xs (10 * it + 1)) (by rw [nI_clamp (by omega)]) ?_
  refine mp_call (va_runV (As := [.int (xs (10 * it + 1))]) (rest := []) ⟨hx, hb, hml, hown, hts⟩ (pr_appeal l X G A M bq h hI (xs (10 * it + 1))) (cwV 1 hts gL_law_X7_appeal rfl rfl rfl (by decide +kernel) ⟨Nat.le_of_ble_eq_true rfl, Nat.le_of_ble_eq_true rfl⟩) (mp_preV hC hS hM (mp_recv hC.1 hM hO (r := (RX7, TX7, 9)) rfl)) rfl rfl hl.1 rfl (lv_room (Nat.le_of_ble_eq_true rfl)) dL_law_753 ⟨by show cells + 0 ≤ 600000; omega, by show slots + 0 ≤ 7302250; omega⟩) hS (fun v M1 H locs hp hM hS => ?_)
  obtain ⟨V, rfl, ⟨fs1, hO1⟩, hr⟩ := hp
  refine mp_stk (st := [.int V]) rfl ?_
  refine lv_aload_n hx hb dL_law_756 rfl (lv_at hl 1 rfl) ?_
  refine lv_aload_n hx hb dL_law_757 rfl (lv_at hl 3 rfl) ?_
  refine lv_iload_n hx hb dL_law_758 rfl (lv_at hl 0 rfl) ?_
  refine lv_iconst (v := (1 : Int32)) hx hb dL_law_759 (by decide) ?_
  refine lv_iadd hx hb dL_law_760 ?_
  refine mp_top (nI (10 * it + 1)) (nI_add (10 * it) 1) ?_
  refine va_sld hx hb hX hbl hbA hS (nI_in (by omega) (by omega)) dL_law_761 ?_
  refine mp_top (xs (10 * it + 1)) (by rw [nI_clamp (by omega)]) ?_
  refine mp_call (va_runV (As := [.int (xs (10 * it + 1))]) (rest := [.int V]) ⟨hx, hb, hml, hown, hts⟩ hr (cwV 1 hts gL_law_X8_appeal rfl rfl rfl (by decide +kernel) ⟨Nat.le_of_ble_eq_true rfl, Nat.le_of_ble_eq_true rfl⟩) (mp_preV hC hS hM (mp_recv hC.1 hM hO1 (r := (RX8, TX8, 45)) rfl)) rfl rfl hl.1 rfl (lv_room (Nat.le_of_ble_eq_true rfl)) dL_law_762 ⟨by show cells + 0 + 0 ≤ 600000; omega, by show slots + 0 + 0 ≤ 7302250; omega⟩) hS (fun w M2 H locs hp hM hS => ?_)
  obtain ⟨rfl, hI⟩ := hp
  refine mp_stk (st := [.int V, .int V]) rfl ?_
  exact lv_icmp_eq (tgt := 1011) hx hb dL_law_765 (by decide) (fun _ => W.widen (k := cells + 20) (n := slots + 1408) (by omega) (by omega) (kk M2 H locs hI hM hS)) (fun q => absurd rfl q)
theorem law_clash (E : lw_E p s m c b L xs X G A) (hL : L ≤ 5120) (hi : 10 * it + 10 ≤ L) (hI : INV G X M bq h) (hM : mp_P G.1 A M H) (hS : va_S A s.heap H locs) (hl : lv_has ls 4 [(3, .int (nI (10 * it))), (2, .ref h), (1, .ref bq), (0, .ref b)]) (hc : cells + 20 ≤ 600000) (hs : slots + 1408 ≤ 7302250)
    (kk : ∀ (M : mp_M) (H : Heap) (locs : List Loc), INV G X M bq h → mp_P G.1 A M H → va_S A s.heap H locs → W p l e room_1 s m #[Value.ref b] below meth c H locs (cells + 20) (slots + 1408) Q (F0 m 1011 ls [])) : W p l e room_1 s m #[Value.ref b] below meth c H locs cells slots Q (F0 m 770 ls []) := by
  obtain ⟨hx, hb, hml, hown, hts, hX, hbl, hbA, hC⟩ := E
  obtain ⟨fs, hO⟩ := lw_O hI
  refine lv_aload_n hx hb dL_law_770 rfl (lv_at hl 2 rfl) ?_
  refine lv_aload_n hx hb dL_law_771 rfl (lv_at hl 3 rfl) ?_
  refine lv_iload_n hx hb dL_law_772 rfl (lv_at hl 0 rfl) ?_
  refine lv_iconst (v := (1 : Int32)) hx hb dL_law_773 (by decide) ?_
  refine lv_iadd hx hb dL_law_774 ?_
  refine mp_top (nI (10 * it + 1)) (nI_add (10 * it) 1) ?_
  refine va_sld hx hb hX hbl hbA hS (nI_in (by omega) (by omega)) dL_law_775 ?_
  refine mp_top (xs (10 * it + 1)) (by rw [nI_clamp (by omega)]) ?_
  refine mp_call (va_runV (As := [.int (xs (10 * it + 1))]) (rest := []) ⟨hx, hb, hml, hown, hts⟩ (pr_clash l X G A M bq h hI (xs (10 * it + 1))) (cwV 1 hts gL_law_X7_clash rfl rfl rfl (by decide +kernel) ⟨Nat.le_of_ble_eq_true rfl, Nat.le_of_ble_eq_true rfl⟩) (mp_preV hC hS hM (mp_recv hC.1 hM hO (r := (RX7, TX7, 9)) rfl)) rfl rfl hl.1 rfl (lv_room (Nat.le_of_ble_eq_true rfl)) dL_law_776 ⟨by show cells + 0 ≤ 600000; omega, by show slots + 0 ≤ 7302250; omega⟩) hS (fun v M1 H locs hp hM hS => ?_)
  obtain ⟨V, rfl, ⟨fs1, hO1⟩, hr⟩ := hp
  refine mp_stk (st := [.int V]) rfl ?_
  refine lv_aload_n hx hb dL_law_779 rfl (lv_at hl 1 rfl) ?_
  refine lv_aload_n hx hb dL_law_780 rfl (lv_at hl 3 rfl) ?_
  refine lv_iload_n hx hb dL_law_781 rfl (lv_at hl 0 rfl) ?_
  refine lv_iconst (v := (1 : Int32)) hx hb dL_law_782 (by decide) ?_
  refine lv_iadd hx hb dL_law_783 ?_
  refine mp_top (nI (10 * it + 1)) (nI_add (10 * it) 1) ?_
  refine va_sld hx hb hX hbl hbA hS (nI_in (by omega) (by omega)) dL_law_784 ?_
  refine mp_top (xs (10 * it + 1)) (by rw [nI_clamp (by omega)]) ?_
  refine mp_call (va_runV (As := [.int (xs (10 * it + 1))]) (rest := [.int V]) ⟨hx, hb, hml, hown, hts⟩ hr (cwV 1 hts gL_law_X8_clash rfl rfl rfl (by decide +kernel) ⟨Nat.le_of_ble_eq_true rfl, Nat.le_of_ble_eq_true rfl⟩) (mp_preV hC hS hM (mp_recv hC.1 hM hO1 (r := (RX8, TX8, 45)) rfl)) rfl rfl hl.1 rfl (lv_room (Nat.le_of_ble_eq_true rfl)) dL_law_785 ⟨by show cells + 0 + 0 ≤ 600000; omega, by show slots + 0 + 0 ≤ 7302250; omega⟩) hS (fun w M2 H locs hp hM hS => ?_)
  obtain ⟨rfl, hI⟩ := hp
  refine mp_stk (st := [.int V, .int V]) rfl ?_
  exact lv_icmp_eq (tgt := 1011) hx hb dL_law_788 (by decide) (fun _ => W.widen (k := cells + 20) (n := slots + 1408) (by omega) (by omega) (kk M2 H locs hI hM hS)) (fun q => absurd rfl q)
theorem law_told (E : lw_E p s m c b L xs X G A) (hL : L ≤ 5120) (hi : 10 * it + 10 ≤ L) (hI : INV G X M bq h) (hM : mp_P G.1 A M H) (hS : va_S A s.heap H locs) (hl : lv_has ls 4 [(3, .int (nI (10 * it))), (2, .ref h), (1, .ref bq), (0, .ref b)]) (hc : cells + 20 ≤ 600000) (hs : slots + 1408 ≤ 7302250)
    (kk : ∀ (M : mp_M) (H : Heap) (locs : List Loc), INV G X M bq h → mp_P G.1 A M H → va_S A s.heap H locs → W p l e room_1 s m #[Value.ref b] below meth c H locs (cells + 20) (slots + 1408) Q (F0 m 1011 ls [])) : W p l e room_1 s m #[Value.ref b] below meth c H locs cells slots Q (F0 m 793 ls []) := by
  obtain ⟨hx, hb, hml, hown, hts, hX, hbl, hbA, hC⟩ := E
  obtain ⟨fs, hO⟩ := lw_O hI
  refine lv_aload_n hx hb dL_law_793 rfl (lv_at hl 2 rfl) ?_
  refine lv_aload_n hx hb dL_law_794 rfl (lv_at hl 3 rfl) ?_
  refine lv_iload_n hx hb dL_law_795 rfl (lv_at hl 0 rfl) ?_
  refine lv_iconst (v := (1 : Int32)) hx hb dL_law_796 (by decide) ?_
  refine lv_iadd hx hb dL_law_797 ?_
  refine mp_top (nI (10 * it + 1)) (nI_add (10 * it) 1) ?_
  refine va_sld hx hb hX hbl hbA hS (nI_in (by omega) (by omega)) dL_law_798 ?_
  refine mp_top (xs (10 * it + 1)) (by rw [nI_clamp (by omega)]) ?_
  refine lv_aload_n hx hb dL_law_799 rfl (lv_at hl 3 rfl) ?_
  refine lv_iload_n hx hb dL_law_800 rfl (lv_at hl 0 rfl) ?_
  refine lv_iconst (v := (2 : Int32)) hx hb dL_law_801 (by decide) ?_
  refine lv_iadd hx hb dL_law_802 ?_
  refine mp_top (nI (10 * it + 2)) (nI_add (10 * it) 2) ?_
  refine va_sld hx hb hX hbl hbA hS (nI_in (by omega) (by omega)) dL_law_803 ?_
  refine mp_top (xs (10 * it + 2)) (by rw [nI_clamp (by omega)]) ?_
  refine mp_call (va_runV (As := [.int (xs (10 * it + 1)), .int (xs (10 * it + 2))]) (rest := []) ⟨hx, hb, hml, hown, hts⟩ (pr_told l X G A M bq h hI (xs (10 * it + 1)) (xs (10 * it + 2))) (cwV 2 hts gL_law_X7_told rfl rfl rfl (by decide +kernel) ⟨Nat.le_of_ble_eq_true rfl, Nat.le_of_ble_eq_true rfl⟩) (mp_preV hC hS hM (mp_recv hC.1 hM hO (r := (RX7, TX7, 9)) rfl)) rfl rfl hl.1 rfl (lv_room (Nat.le_of_ble_eq_true rfl)) dL_law_804 ⟨by show cells + 0 ≤ 600000; omega, by show slots + 0 ≤ 7302250; omega⟩) hS (fun v M1 H locs hp hM hS => ?_)
  obtain ⟨V, rfl, ⟨fs1, hO1⟩, hr⟩ := hp
  refine mp_stk (st := [.int V]) rfl ?_
  refine lv_aload_n hx hb dL_law_807 rfl (lv_at hl 1 rfl) ?_
  refine lv_aload_n hx hb dL_law_808 rfl (lv_at hl 3 rfl) ?_
  refine lv_iload_n hx hb dL_law_809 rfl (lv_at hl 0 rfl) ?_
  refine lv_iconst (v := (1 : Int32)) hx hb dL_law_810 (by decide) ?_
  refine lv_iadd hx hb dL_law_811 ?_
  refine mp_top (nI (10 * it + 1)) (nI_add (10 * it) 1) ?_
  refine va_sld hx hb hX hbl hbA hS (nI_in (by omega) (by omega)) dL_law_812 ?_
  refine mp_top (xs (10 * it + 1)) (by rw [nI_clamp (by omega)]) ?_
  refine lv_aload_n hx hb dL_law_813 rfl (lv_at hl 3 rfl) ?_
  refine lv_iload_n hx hb dL_law_814 rfl (lv_at hl 0 rfl) ?_
  refine lv_iconst (v := (2 : Int32)) hx hb dL_law_815 (by decide) ?_
  refine lv_iadd hx hb dL_law_816 ?_
  refine mp_top (nI (10 * it + 2)) (nI_add (10 * it) 2) ?_
  refine va_sld hx hb hX hbl hbA hS (nI_in (by omega) (by omega)) dL_law_817 ?_
  refine mp_top (xs (10 * it + 2)) (by rw [nI_clamp (by omega)]) ?_
  refine mp_call (va_runV (As := [.int (xs (10 * it + 1)), .int (xs (10 * it + 2))]) (rest := [.int V]) ⟨hx, hb, hml, hown, hts⟩ hr (cwV 2 hts gL_law_X8_told rfl rfl rfl (by decide +kernel) ⟨Nat.le_of_ble_eq_true rfl, Nat.le_of_ble_eq_true rfl⟩) (mp_preV hC hS hM (mp_recv hC.1 hM hO1 (r := (RX8, TX8, 45)) rfl)) rfl rfl hl.1 rfl (lv_room (Nat.le_of_ble_eq_true rfl)) dL_law_818 ⟨by show cells + 0 + 0 ≤ 600000; omega, by show slots + 0 + 0 ≤ 7302250; omega⟩) hS (fun w M2 H locs hp hM hS => ?_)
  obtain ⟨rfl, hI⟩ := hp
  refine mp_stk (st := [.int V, .int V]) rfl ?_
  exact lv_icmp_eq (tgt := 1011) hx hb dL_law_821 (by decide) (fun _ => W.widen (k := cells + 20) (n := slots + 1408) (by omega) (by omega) (kk M2 H locs hI hM hS)) (fun q => absurd rfl q)
theorem law_raze (E : lw_E p s m c b L xs X G A) (hL : L ≤ 5120) (hi : 10 * it + 10 ≤ L) (hI : INV G X M bq h) (hM : mp_P G.1 A M H) (hS : va_S A s.heap H locs) (hl : lv_has ls 4 [(3, .int (nI (10 * it))), (2, .ref h), (1, .ref bq), (0, .ref b)]) (hc : cells + 20 ≤ 600000) (hs : slots + 1408 ≤ 7302250)
    (kk : ∀ (M : mp_M) (H : Heap) (locs : List Loc), INV G X M bq h → mp_P G.1 A M H → va_S A s.heap H locs → W p l e room_1 s m #[Value.ref b] below meth c H locs (cells + 20) (slots + 1408) Q (F0 m 1011 ls [])) : W p l e room_1 s m #[Value.ref b] below meth c H locs cells slots Q (F0 m 826 ls []) := by
  obtain ⟨hx, hb, hml, hown, hts, hX, hbl, hbA, hC⟩ := E
  obtain ⟨fs, hO⟩ := lw_O hI
  refine lv_aload_n hx hb dL_law_826 rfl (lv_at hl 2 rfl) ?_
  refine lv_aload_n hx hb dL_law_827 rfl (lv_at hl 3 rfl) ?_
  refine lv_iload_n hx hb dL_law_828 rfl (lv_at hl 0 rfl) ?_
  refine lv_iconst (v := (1 : Int32)) hx hb dL_law_829 (by decide) ?_
  refine lv_iadd hx hb dL_law_830 ?_
  refine mp_top (nI (10 * it + 1)) (nI_add (10 * it) 1) ?_
  refine va_sld hx hb hX hbl hbA hS (nI_in (by omega) (by omega)) dL_law_831 ?_
  refine mp_top (xs (10 * it + 1)) (by rw [nI_clamp (by omega)]) ?_
  refine lv_aload_n hx hb dL_law_832 rfl (lv_at hl 3 rfl) ?_
  refine lv_iload_n hx hb dL_law_833 rfl (lv_at hl 0 rfl) ?_
  refine lv_iconst (v := (2 : Int32)) hx hb dL_law_834 (by decide) ?_
  refine lv_iadd hx hb dL_law_835 ?_
  refine mp_top (nI (10 * it + 2)) (nI_add (10 * it) 2) ?_
  refine va_sld hx hb hX hbl hbA hS (nI_in (by omega) (by omega)) dL_law_836 ?_
  refine mp_top (xs (10 * it + 2)) (by rw [nI_clamp (by omega)]) ?_
  refine mp_call (va_runV (As := [.int (xs (10 * it + 1)), .int (xs (10 * it + 2))]) (rest := []) ⟨hx, hb, hml, hown, hts⟩ (pr_raze l X G A M bq h hI (xs (10 * it + 1)) (xs (10 * it + 2))) (cwV 2 hts gL_law_X7_raze rfl rfl rfl (by decide +kernel) ⟨Nat.le_of_ble_eq_true rfl, Nat.le_of_ble_eq_true rfl⟩) (mp_preV hC hS hM (mp_recv hC.1 hM hO (r := (RX7, TX7, 9)) rfl)) rfl rfl hl.1 rfl (lv_room (Nat.le_of_ble_eq_true rfl)) dL_law_837 ⟨by show cells + 0 ≤ 600000; omega, by show slots + 0 ≤ 7302250; omega⟩) hS (fun v M1 H locs hp hM hS => ?_)
  obtain ⟨V, rfl, ⟨fs1, hO1⟩, hr⟩ := hp
  refine mp_stk (st := [.int V]) rfl ?_
  refine lv_aload_n hx hb dL_law_840 rfl (lv_at hl 1 rfl) ?_
  refine lv_aload_n hx hb dL_law_841 rfl (lv_at hl 3 rfl) ?_
  refine lv_iload_n hx hb dL_law_842 rfl (lv_at hl 0 rfl) ?_
  refine lv_iconst (v := (1 : Int32)) hx hb dL_law_843 (by decide) ?_
  refine lv_iadd hx hb dL_law_844 ?_
  refine mp_top (nI (10 * it + 1)) (nI_add (10 * it) 1) ?_
  refine va_sld hx hb hX hbl hbA hS (nI_in (by omega) (by omega)) dL_law_845 ?_
  refine mp_top (xs (10 * it + 1)) (by rw [nI_clamp (by omega)]) ?_
  refine lv_aload_n hx hb dL_law_846 rfl (lv_at hl 3 rfl) ?_
  refine lv_iload_n hx hb dL_law_847 rfl (lv_at hl 0 rfl) ?_
  refine lv_iconst (v := (2 : Int32)) hx hb dL_law_848 (by decide) ?_
  refine lv_iadd hx hb dL_law_849 ?_
  refine mp_top (nI (10 * it + 2)) (nI_add (10 * it) 2) ?_
  refine va_sld hx hb hX hbl hbA hS (nI_in (by omega) (by omega)) dL_law_850 ?_
  refine mp_top (xs (10 * it + 2)) (by rw [nI_clamp (by omega)]) ?_
  refine mp_call (va_runV (As := [.int (xs (10 * it + 1)), .int (xs (10 * it + 2))]) (rest := [.int V]) ⟨hx, hb, hml, hown, hts⟩ hr (cwV 2 hts gL_law_X8_raze rfl rfl rfl (by decide +kernel) ⟨Nat.le_of_ble_eq_true rfl, Nat.le_of_ble_eq_true rfl⟩) (mp_preV hC hS hM (mp_recv hC.1 hM hO1 (r := (RX8, TX8, 45)) rfl)) rfl rfl hl.1 rfl (lv_room (Nat.le_of_ble_eq_true rfl)) dL_law_851 ⟨by show cells + 0 + 0 ≤ 600000; omega, by show slots + 0 + 0 ≤ 7302250; omega⟩) hS (fun w M2 H locs hp hM hS => ?_)
  obtain ⟨rfl, hI⟩ := hp
  refine mp_stk (st := [.int V, .int V]) rfl ?_
  exact lv_icmp_eq (tgt := 1011) hx hb dL_law_854 (by decide) (fun _ => W.widen (k := cells + 20) (n := slots + 1408) (by omega) (by omega) (kk M2 H locs hI hM hS)) (fun q => absurd rfl q)
theorem law_stands (E : lw_E p s m c b L xs X G A) (hL : L ≤ 5120) (hi : 10 * it + 10 ≤ L) (hI : INV G X M bq h) (hM : mp_P G.1 A M H) (hS : va_S A s.heap H locs) (hl : lv_has ls 4 [(3, .int (nI (10 * it))), (2, .ref h), (1, .ref bq), (0, .ref b)]) (hc : cells + 20 ≤ 600000) (hs : slots + 1408 ≤ 7302250)
    (kk : ∀ (M : mp_M) (H : Heap) (locs : List Loc), INV G X M bq h → mp_P G.1 A M H → va_S A s.heap H locs → W p l e room_1 s m #[Value.ref b] below meth c H locs (cells + 20) (slots + 1408) Q (F0 m 1011 ls [])) : W p l e room_1 s m #[Value.ref b] below meth c H locs cells slots Q (F0 m 859 ls []) := by
  obtain ⟨hx, hb, hml, hown, hts, hX, hbl, hbA, hC⟩ := E
  obtain ⟨fs, hO⟩ := lw_O hI
  refine lv_aload_n hx hb dL_law_859 rfl (lv_at hl 2 rfl) ?_
  refine lv_aload_n hx hb dL_law_860 rfl (lv_at hl 3 rfl) ?_
  refine lv_iload_n hx hb dL_law_861 rfl (lv_at hl 0 rfl) ?_
  refine lv_iconst (v := (1 : Int32)) hx hb dL_law_862 (by decide) ?_
  refine lv_iadd hx hb dL_law_863 ?_
  refine mp_top (nI (10 * it + 1)) (nI_add (10 * it) 1) ?_
  refine va_sld hx hb hX hbl hbA hS (nI_in (by omega) (by omega)) dL_law_864 ?_
  refine mp_top (xs (10 * it + 1)) (by rw [nI_clamp (by omega)]) ?_
  refine lv_aload_n hx hb dL_law_865 rfl (lv_at hl 3 rfl) ?_
  refine lv_iload_n hx hb dL_law_866 rfl (lv_at hl 0 rfl) ?_
  refine lv_iconst (v := (2 : Int32)) hx hb dL_law_867 (by decide) ?_
  refine lv_iadd hx hb dL_law_868 ?_
  refine mp_top (nI (10 * it + 2)) (nI_add (10 * it) 2) ?_
  refine va_sld hx hb hX hbl hbA hS (nI_in (by omega) (by omega)) dL_law_869 ?_
  refine mp_top (xs (10 * it + 2)) (by rw [nI_clamp (by omega)]) ?_
  refine lv_aload_n hx hb dL_law_870 rfl (lv_at hl 3 rfl) ?_
  refine lv_iload_n hx hb dL_law_871 rfl (lv_at hl 0 rfl) ?_
  refine lv_iconst (v := (3 : Int32)) hx hb dL_law_872 (by decide) ?_
  refine lv_iadd hx hb dL_law_873 ?_
  refine mp_top (nI (10 * it + 3)) (nI_add (10 * it) 3) ?_
  refine va_sld hx hb hX hbl hbA hS (nI_in (by omega) (by omega)) dL_law_874 ?_
  refine mp_top (xs (10 * it + 3)) (by rw [nI_clamp (by omega)]) ?_
  refine mp_call (va_runV (As := [.int (xs (10 * it + 1)), .int (xs (10 * it + 2)), .int (xs (10 * it + 3))]) (rest := []) ⟨hx, hb, hml, hown, hts⟩ (pr_stands l X G A M bq h hI (xs (10 * it + 1)) (xs (10 * it + 2)) (xs (10 * it + 3))) (cwV 3 hts gL_law_X7_stands rfl rfl rfl (by decide +kernel) ⟨Nat.le_of_ble_eq_true rfl, Nat.le_of_ble_eq_true rfl⟩) (mp_preV hC hS hM (mp_recv hC.1 hM hO (r := (RX7, TX7, 9)) rfl)) rfl rfl hl.1 rfl (lv_room (Nat.le_of_ble_eq_true rfl)) dL_law_875 ⟨by show cells + 0 ≤ 600000; omega, by show slots + 0 ≤ 7302250; omega⟩) hS (fun v M1 H locs hp hM hS => ?_)
  obtain ⟨V, rfl, ⟨fs1, hO1⟩, hr⟩ := hp
  refine mp_stk (st := [.int V]) rfl ?_
  refine lv_aload_n hx hb dL_law_878 rfl (lv_at hl 1 rfl) ?_
  refine lv_aload_n hx hb dL_law_879 rfl (lv_at hl 3 rfl) ?_
  refine lv_iload_n hx hb dL_law_880 rfl (lv_at hl 0 rfl) ?_
  refine lv_iconst (v := (1 : Int32)) hx hb dL_law_881 (by decide) ?_
  refine lv_iadd hx hb dL_law_882 ?_
  refine mp_top (nI (10 * it + 1)) (nI_add (10 * it) 1) ?_
  refine va_sld hx hb hX hbl hbA hS (nI_in (by omega) (by omega)) dL_law_883 ?_
  refine mp_top (xs (10 * it + 1)) (by rw [nI_clamp (by omega)]) ?_
  refine lv_aload_n hx hb dL_law_884 rfl (lv_at hl 3 rfl) ?_
  refine lv_iload_n hx hb dL_law_885 rfl (lv_at hl 0 rfl) ?_
  refine lv_iconst (v := (2 : Int32)) hx hb dL_law_886 (by decide) ?_
  refine lv_iadd hx hb dL_law_887 ?_
  refine mp_top (nI (10 * it + 2)) (nI_add (10 * it) 2) ?_
  refine va_sld hx hb hX hbl hbA hS (nI_in (by omega) (by omega)) dL_law_888 ?_
  refine mp_top (xs (10 * it + 2)) (by rw [nI_clamp (by omega)]) ?_
  refine lv_aload_n hx hb dL_law_889 rfl (lv_at hl 3 rfl) ?_
  refine lv_iload_n hx hb dL_law_890 rfl (lv_at hl 0 rfl) ?_
  refine lv_iconst (v := (3 : Int32)) hx hb dL_law_891 (by decide) ?_
  refine lv_iadd hx hb dL_law_892 ?_
  refine mp_top (nI (10 * it + 3)) (nI_add (10 * it) 3) ?_
  refine va_sld hx hb hX hbl hbA hS (nI_in (by omega) (by omega)) dL_law_893 ?_
  refine mp_top (xs (10 * it + 3)) (by rw [nI_clamp (by omega)]) ?_
  refine mp_call (va_runV (As := [.int (xs (10 * it + 1)), .int (xs (10 * it + 2)), .int (xs (10 * it + 3))]) (rest := [.int V]) ⟨hx, hb, hml, hown, hts⟩ hr (cwV 3 hts gL_law_X8_stands rfl rfl rfl (by decide +kernel) ⟨Nat.le_of_ble_eq_true rfl, Nat.le_of_ble_eq_true rfl⟩) (mp_preV hC hS hM (mp_recv hC.1 hM hO1 (r := (RX8, TX8, 45)) rfl)) rfl rfl hl.1 rfl (lv_room (Nat.le_of_ble_eq_true rfl)) dL_law_894 ⟨by show cells + 0 + 0 ≤ 600000; omega, by show slots + 0 + 0 ≤ 7302250; omega⟩) hS (fun w M2 H locs hp hM hS => ?_)
  obtain ⟨rfl, hI⟩ := hp
  refine mp_stk (st := [.int V, .int V]) rfl ?_
  exact lv_icmp_eq (tgt := 1011) hx hb dL_law_897 (by decide) (fun _ => W.widen (k := cells + 20) (n := slots + 1408) (by omega) (by omega) (kk M2 H locs hI hM hS)) (fun q => absurd rfl q)
theorem law_hold (E : lw_E p s m c b L xs X G A) (hL : L ≤ 5120) (hi : 10 * it + 10 ≤ L) (hI : INV G X M bq h) (hM : mp_P G.1 A M H) (hS : va_S A s.heap H locs) (hl : lv_has ls 4 [(3, .int (nI (10 * it))), (2, .ref h), (1, .ref bq), (0, .ref b)]) (hc : cells + 20 ≤ 600000) (hs : slots + 1408 ≤ 7302250)
    (kk : ∀ (M : mp_M) (H : Heap) (locs : List Loc), INV G X M bq h → mp_P G.1 A M H → va_S A s.heap H locs → W p l e room_1 s m #[Value.ref b] below meth c H locs (cells + 20) (slots + 1408) Q (F0 m 1011 ls [])) : W p l e room_1 s m #[Value.ref b] below meth c H locs cells slots Q (F0 m 902 ls []) := by
  obtain ⟨hx, hb, hml, hown, hts, hX, hbl, hbA, hC⟩ := E
  obtain ⟨fs, hO⟩ := lw_O hI
  refine lv_aload_n hx hb dL_law_902 rfl (lv_at hl 2 rfl) ?_
  refine lv_aload_n hx hb dL_law_903 rfl (lv_at hl 3 rfl) ?_
  refine lv_iload_n hx hb dL_law_904 rfl (lv_at hl 0 rfl) ?_
  refine lv_iconst (v := (1 : Int32)) hx hb dL_law_905 (by decide) ?_
  refine lv_iadd hx hb dL_law_906 ?_
  refine mp_top (nI (10 * it + 1)) (nI_add (10 * it) 1) ?_
  refine va_sld hx hb hX hbl hbA hS (nI_in (by omega) (by omega)) dL_law_907 ?_
  refine mp_top (xs (10 * it + 1)) (by rw [nI_clamp (by omega)]) ?_
  refine lv_aload_n hx hb dL_law_908 rfl (lv_at hl 3 rfl) ?_
  refine lv_iload_n hx hb dL_law_909 rfl (lv_at hl 0 rfl) ?_
  refine lv_iconst (v := (2 : Int32)) hx hb dL_law_910 (by decide) ?_
  refine lv_iadd hx hb dL_law_911 ?_
  refine mp_top (nI (10 * it + 2)) (nI_add (10 * it) 2) ?_
  refine va_sld hx hb hX hbl hbA hS (nI_in (by omega) (by omega)) dL_law_912 ?_
  refine mp_top (xs (10 * it + 2)) (by rw [nI_clamp (by omega)]) ?_
  refine lv_aload_n hx hb dL_law_913 rfl (lv_at hl 3 rfl) ?_
  refine lv_iload_n hx hb dL_law_914 rfl (lv_at hl 0 rfl) ?_
  refine lv_iconst (v := (3 : Int32)) hx hb dL_law_915 (by decide) ?_
  refine lv_iadd hx hb dL_law_916 ?_
  refine mp_top (nI (10 * it + 3)) (nI_add (10 * it) 3) ?_
  refine va_sld hx hb hX hbl hbA hS (nI_in (by omega) (by omega)) dL_law_917 ?_
  refine mp_top (xs (10 * it + 3)) (by rw [nI_clamp (by omega)]) ?_
  refine mp_call (va_runV (As := [.int (xs (10 * it + 1)), .int (xs (10 * it + 2)), .int (xs (10 * it + 3))]) (rest := []) ⟨hx, hb, hml, hown, hts⟩ (pr_hold l X G A M bq h hI (xs (10 * it + 1)) (xs (10 * it + 2)) (xs (10 * it + 3))) (cwV 3 hts gL_law_X7_hold rfl rfl rfl (by decide +kernel) ⟨Nat.le_of_ble_eq_true rfl, Nat.le_of_ble_eq_true rfl⟩) (mp_preV hC hS hM (mp_recv hC.1 hM hO (r := (RX7, TX7, 9)) rfl)) rfl rfl hl.1 rfl (lv_room (Nat.le_of_ble_eq_true rfl)) dL_law_918 ⟨by show cells + 2 ≤ 600000; omega, by show slots + 154 ≤ 7302250; omega⟩) hS (fun v M1 H locs hp hM hS => ?_)
  obtain ⟨V, rfl, ⟨fs1, hO1⟩, hr⟩ := hp
  refine mp_stk (st := [.int V]) rfl ?_
  refine lv_aload_n hx hb dL_law_921 rfl (lv_at hl 1 rfl) ?_
  refine lv_aload_n hx hb dL_law_922 rfl (lv_at hl 3 rfl) ?_
  refine lv_iload_n hx hb dL_law_923 rfl (lv_at hl 0 rfl) ?_
  refine lv_iconst (v := (1 : Int32)) hx hb dL_law_924 (by decide) ?_
  refine lv_iadd hx hb dL_law_925 ?_
  refine mp_top (nI (10 * it + 1)) (nI_add (10 * it) 1) ?_
  refine va_sld hx hb hX hbl hbA hS (nI_in (by omega) (by omega)) dL_law_926 ?_
  refine mp_top (xs (10 * it + 1)) (by rw [nI_clamp (by omega)]) ?_
  refine lv_aload_n hx hb dL_law_927 rfl (lv_at hl 3 rfl) ?_
  refine lv_iload_n hx hb dL_law_928 rfl (lv_at hl 0 rfl) ?_
  refine lv_iconst (v := (2 : Int32)) hx hb dL_law_929 (by decide) ?_
  refine lv_iadd hx hb dL_law_930 ?_
  refine mp_top (nI (10 * it + 2)) (nI_add (10 * it) 2) ?_
  refine va_sld hx hb hX hbl hbA hS (nI_in (by omega) (by omega)) dL_law_931 ?_
  refine mp_top (xs (10 * it + 2)) (by rw [nI_clamp (by omega)]) ?_
  refine lv_aload_n hx hb dL_law_932 rfl (lv_at hl 3 rfl) ?_
  refine lv_iload_n hx hb dL_law_933 rfl (lv_at hl 0 rfl) ?_
  refine lv_iconst (v := (3 : Int32)) hx hb dL_law_934 (by decide) ?_
  refine lv_iadd hx hb dL_law_935 ?_
  refine mp_top (nI (10 * it + 3)) (nI_add (10 * it) 3) ?_
  refine va_sld hx hb hX hbl hbA hS (nI_in (by omega) (by omega)) dL_law_936 ?_
  refine mp_top (xs (10 * it + 3)) (by rw [nI_clamp (by omega)]) ?_
  refine mp_call (va_runV (As := [.int (xs (10 * it + 1)), .int (xs (10 * it + 2)), .int (xs (10 * it + 3))]) (rest := [.int V]) ⟨hx, hb, hml, hown, hts⟩ hr (cwV 3 hts gL_law_X8_hold rfl rfl rfl (by decide +kernel) ⟨Nat.le_of_ble_eq_true rfl, Nat.le_of_ble_eq_true rfl⟩) (mp_preV hC hS hM (mp_recv hC.1 hM hO1 (r := (RX8, TX8, 45)) rfl)) rfl rfl hl.1 rfl (lv_room (Nat.le_of_ble_eq_true rfl)) dL_law_937 ⟨by show cells + 2 + 0 ≤ 600000; omega, by show slots + 154 + 0 ≤ 7302250; omega⟩) hS (fun w M2 H locs hp hM hS => ?_)
  obtain ⟨rfl, hI⟩ := hp
  refine mp_stk (st := [.int V, .int V]) rfl ?_
  exact lv_icmp_eq (tgt := 1011) hx hb dL_law_940 (by decide) (fun _ => W.widen (k := cells + 20) (n := slots + 1408) (by omega) (by omega) (kk M2 H locs hI hM hS)) (fun q => absurd rfl q)
theorem law_holder (E : lw_E p s m c b L xs X G A) (hL : L ≤ 5120) (hi : 10 * it + 10 ≤ L) (hI : INV G X M bq h) (hM : mp_P G.1 A M H) (hS : va_S A s.heap H locs) (hl : lv_has ls 4 [(3, .int (nI (10 * it))), (2, .ref h), (1, .ref bq), (0, .ref b)]) (hc : cells + 20 ≤ 600000) (hs : slots + 1408 ≤ 7302250)
    (kk : ∀ (M : mp_M) (H : Heap) (locs : List Loc), INV G X M bq h → mp_P G.1 A M H → va_S A s.heap H locs → W p l e room_1 s m #[Value.ref b] below meth c H locs (cells + 20) (slots + 1408) Q (F0 m 1011 ls [])) : W p l e room_1 s m #[Value.ref b] below meth c H locs cells slots Q (F0 m 945 ls []) := by
  obtain ⟨hx, hb, hml, hown, hts, hX, hbl, hbA, hC⟩ := E
  obtain ⟨fs, hO⟩ := lw_O hI
  refine lv_aload_n hx hb dL_law_945 rfl (lv_at hl 2 rfl) ?_
  refine lv_aload_n hx hb dL_law_946 rfl (lv_at hl 3 rfl) ?_
  refine lv_iload_n hx hb dL_law_947 rfl (lv_at hl 0 rfl) ?_
  refine lv_iconst (v := (1 : Int32)) hx hb dL_law_948 (by decide) ?_
  refine lv_iadd hx hb dL_law_949 ?_
  refine mp_top (nI (10 * it + 1)) (nI_add (10 * it) 1) ?_
  refine va_sld hx hb hX hbl hbA hS (nI_in (by omega) (by omega)) dL_law_950 ?_
  refine mp_top (xs (10 * it + 1)) (by rw [nI_clamp (by omega)]) ?_
  refine lv_aload_n hx hb dL_law_951 rfl (lv_at hl 3 rfl) ?_
  refine lv_iload_n hx hb dL_law_952 rfl (lv_at hl 0 rfl) ?_
  refine lv_iconst (v := (2 : Int32)) hx hb dL_law_953 (by decide) ?_
  refine lv_iadd hx hb dL_law_954 ?_
  refine mp_top (nI (10 * it + 2)) (nI_add (10 * it) 2) ?_
  refine va_sld hx hb hX hbl hbA hS (nI_in (by omega) (by omega)) dL_law_955 ?_
  refine mp_top (xs (10 * it + 2)) (by rw [nI_clamp (by omega)]) ?_
  refine lv_aload_n hx hb dL_law_956 rfl (lv_at hl 3 rfl) ?_
  refine lv_iload_n hx hb dL_law_957 rfl (lv_at hl 0 rfl) ?_
  refine lv_iconst (v := (3 : Int32)) hx hb dL_law_958 (by decide) ?_
  refine lv_iadd hx hb dL_law_959 ?_
  refine mp_top (nI (10 * it + 3)) (nI_add (10 * it) 3) ?_
  refine va_sld hx hb hX hbl hbA hS (nI_in (by omega) (by omega)) dL_law_960 ?_
  refine mp_top (xs (10 * it + 3)) (by rw [nI_clamp (by omega)]) ?_
  refine mp_call (va_runV (As := [.int (xs (10 * it + 1)), .int (xs (10 * it + 2)), .int (xs (10 * it + 3))]) (rest := []) ⟨hx, hb, hml, hown, hts⟩ (pr_holder l X G A M bq h hI (xs (10 * it + 1)) (xs (10 * it + 2)) (xs (10 * it + 3))) (cwV 3 hts gL_law_X7_holder rfl rfl rfl (by decide +kernel) ⟨Nat.le_of_ble_eq_true rfl, Nat.le_of_ble_eq_true rfl⟩) (mp_preV hC hS hM (mp_recv hC.1 hM hO (r := (RX7, TX7, 9)) rfl)) rfl rfl hl.1 rfl (lv_room (Nat.le_of_ble_eq_true rfl)) dL_law_961 ⟨by show cells + 0 ≤ 600000; omega, by show slots + 0 ≤ 7302250; omega⟩) hS (fun v M1 H locs hp hM hS => ?_)
  obtain ⟨V, rfl, ⟨fs1, hO1⟩, hr⟩ := hp
  refine mp_stk (st := [.int V]) rfl ?_
  refine lv_aload_n hx hb dL_law_964 rfl (lv_at hl 1 rfl) ?_
  refine lv_aload_n hx hb dL_law_965 rfl (lv_at hl 3 rfl) ?_
  refine lv_iload_n hx hb dL_law_966 rfl (lv_at hl 0 rfl) ?_
  refine lv_iconst (v := (1 : Int32)) hx hb dL_law_967 (by decide) ?_
  refine lv_iadd hx hb dL_law_968 ?_
  refine mp_top (nI (10 * it + 1)) (nI_add (10 * it) 1) ?_
  refine va_sld hx hb hX hbl hbA hS (nI_in (by omega) (by omega)) dL_law_969 ?_
  refine mp_top (xs (10 * it + 1)) (by rw [nI_clamp (by omega)]) ?_
  refine lv_aload_n hx hb dL_law_970 rfl (lv_at hl 3 rfl) ?_
  refine lv_iload_n hx hb dL_law_971 rfl (lv_at hl 0 rfl) ?_
  refine lv_iconst (v := (2 : Int32)) hx hb dL_law_972 (by decide) ?_
  refine lv_iadd hx hb dL_law_973 ?_
  refine mp_top (nI (10 * it + 2)) (nI_add (10 * it) 2) ?_
  refine va_sld hx hb hX hbl hbA hS (nI_in (by omega) (by omega)) dL_law_974 ?_
  refine mp_top (xs (10 * it + 2)) (by rw [nI_clamp (by omega)]) ?_
  refine lv_aload_n hx hb dL_law_975 rfl (lv_at hl 3 rfl) ?_
  refine lv_iload_n hx hb dL_law_976 rfl (lv_at hl 0 rfl) ?_
  refine lv_iconst (v := (3 : Int32)) hx hb dL_law_977 (by decide) ?_
  refine lv_iadd hx hb dL_law_978 ?_
  refine mp_top (nI (10 * it + 3)) (nI_add (10 * it) 3) ?_
  refine va_sld hx hb hX hbl hbA hS (nI_in (by omega) (by omega)) dL_law_979 ?_
  refine mp_top (xs (10 * it + 3)) (by rw [nI_clamp (by omega)]) ?_
  refine mp_call (va_runV (As := [.int (xs (10 * it + 1)), .int (xs (10 * it + 2)), .int (xs (10 * it + 3))]) (rest := [.int V]) ⟨hx, hb, hml, hown, hts⟩ hr (cwV 3 hts gL_law_X8_holder rfl rfl rfl (by decide +kernel) ⟨Nat.le_of_ble_eq_true rfl, Nat.le_of_ble_eq_true rfl⟩) (mp_preV hC hS hM (mp_recv hC.1 hM hO1 (r := (RX8, TX8, 45)) rfl)) rfl rfl hl.1 rfl (lv_room (Nat.le_of_ble_eq_true rfl)) dL_law_980 ⟨by show cells + 0 + 0 ≤ 600000; omega, by show slots + 0 + 0 ≤ 7302250; omega⟩) hS (fun w M2 H locs hp hM hS => ?_)
  obtain ⟨rfl, hI⟩ := hp
  refine mp_stk (st := [.int V, .int V]) rfl ?_
  exact lv_icmp_eq (tgt := 1011) hx hb dL_law_983 (by decide) (fun _ => W.widen (k := cells + 20) (n := slots + 1408) (by omega) (by omega) (kk M2 H locs hI hM hS)) (fun q => absurd rfl q)
theorem law_count (E : lw_E p s m c b L xs X G A) (hL : L ≤ 5120) (hi : 10 * it + 10 ≤ L) (hI : INV G X M bq h) (hM : mp_P G.1 A M H) (hS : va_S A s.heap H locs) (hl : lv_has ls 4 [(3, .int (nI (10 * it))), (2, .ref h), (1, .ref bq), (0, .ref b)]) (hc : cells + 20 ≤ 600000) (hs : slots + 1408 ≤ 7302250)
    (kk : ∀ (M : mp_M) (H : Heap) (locs : List Loc), INV G X M bq h → mp_P G.1 A M H → va_S A s.heap H locs → W p l e room_1 s m #[Value.ref b] below meth c H locs (cells + 20) (slots + 1408) Q (F0 m 1011 ls [])) : W p l e room_1 s m #[Value.ref b] below meth c H locs cells slots Q (F0 m 988 ls []) := by
  obtain ⟨hx, hb, hml, hown, hts, hX, hbl, hbA, hC⟩ := E
  obtain ⟨fs, hO⟩ := lw_O hI
  refine lv_aload_n hx hb dL_law_988 rfl (lv_at hl 2 rfl) ?_
  refine lv_aload_n hx hb dL_law_989 rfl (lv_at hl 3 rfl) ?_
  refine lv_iload_n hx hb dL_law_990 rfl (lv_at hl 0 rfl) ?_
  refine lv_iconst (v := (1 : Int32)) hx hb dL_law_991 (by decide) ?_
  refine lv_iadd hx hb dL_law_992 ?_
  refine mp_top (nI (10 * it + 1)) (nI_add (10 * it) 1) ?_
  refine va_sld hx hb hX hbl hbA hS (nI_in (by omega) (by omega)) dL_law_993 ?_
  refine mp_top (xs (10 * it + 1)) (by rw [nI_clamp (by omega)]) ?_
  refine mp_call (va_runV (As := [.int (xs (10 * it + 1))]) (rest := []) ⟨hx, hb, hml, hown, hts⟩ (pr_count l X G A M bq h hI (xs (10 * it + 1))) (cwV 1 hts gL_law_X7_count rfl rfl rfl (by decide +kernel) ⟨Nat.le_of_ble_eq_true rfl, Nat.le_of_ble_eq_true rfl⟩) (mp_preV hC hS hM (mp_recv hC.1 hM hO (r := (RX7, TX7, 9)) rfl)) rfl rfl hl.1 rfl (lv_room (Nat.le_of_ble_eq_true rfl)) dL_law_994 ⟨by show cells + 0 ≤ 600000; omega, by show slots + 0 ≤ 7302250; omega⟩) hS (fun v M1 H locs hp hM hS => ?_)
  obtain ⟨V, rfl, ⟨fs1, hO1⟩, hr⟩ := hp
  refine mp_stk (st := [.int V]) rfl ?_
  refine lv_aload_n hx hb dL_law_997 rfl (lv_at hl 1 rfl) ?_
  refine lv_aload_n hx hb dL_law_998 rfl (lv_at hl 3 rfl) ?_
  refine lv_iload_n hx hb dL_law_999 rfl (lv_at hl 0 rfl) ?_
  refine lv_iconst (v := (1 : Int32)) hx hb dL_law_1000 (by decide) ?_
  refine lv_iadd hx hb dL_law_1001 ?_
  refine mp_top (nI (10 * it + 1)) (nI_add (10 * it) 1) ?_
  refine va_sld hx hb hX hbl hbA hS (nI_in (by omega) (by omega)) dL_law_1002 ?_
  refine mp_top (xs (10 * it + 1)) (by rw [nI_clamp (by omega)]) ?_
  refine mp_call (va_runV (As := [.int (xs (10 * it + 1))]) (rest := [.int V]) ⟨hx, hb, hml, hown, hts⟩ hr (cwV 1 hts gL_law_X8_count rfl rfl rfl (by decide +kernel) ⟨Nat.le_of_ble_eq_true rfl, Nat.le_of_ble_eq_true rfl⟩) (mp_preV hC hS hM (mp_recv hC.1 hM hO1 (r := (RX8, TX8, 45)) rfl)) rfl rfl hl.1 rfl (lv_room (Nat.le_of_ble_eq_true rfl)) dL_law_1003 ⟨by show cells + 0 + 0 ≤ 600000; omega, by show slots + 0 + 0 ≤ 7302250; omega⟩) hS (fun w M2 H locs hp hM hS => ?_)
  obtain ⟨rfl, hI⟩ := hp
  refine mp_stk (st := [.int V, .int V]) rfl ?_
  exact lv_icmp_eq (tgt := 1011) hx hb dL_law_1006 (by decide) (fun _ => W.widen (k := cells + 20) (n := slots + 1408) (by omega) (by omega) (kk M2 H locs hI hM hS)) (fun q => absurd rfl q)
end LAWC
