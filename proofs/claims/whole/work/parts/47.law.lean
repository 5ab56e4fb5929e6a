/-! THE CLAIM OUT OF ONE WALK OF THE LAW'S BODY. Your part is whole_start (and what it stands on); all else here is the same for every law, but numbers. -/
def R_law : String := "PlanningBenchLaw"
def lw_P (b : Addr) (xs : List Int32) (args : Array Value) (s : State) : Prop := args = #[.ref b] ∧ s.IntsAt b xs ∧ xs.length ≤ 5120 ∧ (Jvm.Cond.and given_1 narrow_1).before args s = true
def lw_Q (_ : Array Value) (s : State) (o : Outcome) (t : State) : Prop := o = .returned (some (.int 1)) ∧ Framed s o t [] 600000 7302250
def lw_Z (below : List Frame) (a : Array Value) (s : State) : State → Prop := fun t => ∃ o, t.status = .running ∧ Ended t below o ∧ lw_Q a s o t
/-- the law's own end, with 1 on the stack, nothing written that was there before, its room as the claim has it -/
theorem lw_ret {p : Program} {l : Launch} {e : Env} {s : State} {m : MethodId} {below : List Frame} {meth : Method} {c : Code} {b : Nat} (hx : p.tables.exec = Jvm.exec) (hb : c.code = code) (hr : meth.sig.returnType = ret) (hlocks : meth.locks = false) {pc : Nat} {H : Heap} {ls : Array Slot} (hdg : decode code pc = .ok (.ireturn, 1)) : W p l e room_1 s m #[Value.ref b] below meth c H [] 600000 7302250 (lw_Z below #[Value.ref b] s) (F0 m pc ls [.int 1]) := by
  intro T hT X
  obtain ⟨fs, hret, hrun, hended, hW, hframe⟩ := X.leave (v := some (.int 1)) (hlocks := hlocks) (fun h => by rw [hr] at h; cases h)
  have hmeth' : T.vm.method? m = some meth := X.method'
  refine ⟨T.setFrames fs, ?_, .returned (some (.int 1)), hrun, hended, rfl, ⟨_, rfl⟩, hW, hframe⟩
  jvm_step X.here [X.here.top, hx, hb, hdg, hmeth', hr, ret, narrow_b1]
  (try refine ⟨rfl, ?_⟩); (try refine ⟨rfl, ?_⟩)
  first | (intro acts; rw [hret _ acts rfl rfl rfl]) | rw [hret _ _ rfl rfl rfl]
  exact Steps.refl _
/-- what holds at the law's entry: the machine, the code, the tables' words (any of lw_tbl by 'hts w (by decide +kernel)'), the script of L ints xs at the cell b, what the Statement gives of the start (any of its parts by flat_of_before) -/
def lw_At (p : Program) (s : State) (m : MethodId) (meth : Method) (c : Code) (b L : Nat) (xs : Nat → Int32) : Prop :=
  p.tables.exec = Jvm.exec ∧ c.code = code ∧ meth.sig.returnType = ret ∧ c.maxLocals = 4 ∧ s.vm.findClass R_law = some m.cls ∧ (∀ w ∈ lw_tbl, w.before #[Value.ref b] s = true) ∧ va_X b L xs s s.heap ∧ b < s.heap.size ∧ meth.locks = false ∧ (Jvm.Cond.and given_1 narrow_1).before #[Value.ref b] s = true
theorem lw_more {L it : Nat} (hL : L ≤ 5120) (hi : 10 * it ≤ L) (q : ¬ nI L - 10 < nI (10 * it)) : 10 * it + 10 ≤ L := by
  by_cases h : 10 ≤ L
  · have e1 : nI L - 10 = nI (L - 10) := pk_sub (a := L) (b := 10) h
    rw [e1] at q
    have := nn_nlt (a := L - 10) (b := 10 * it) (by omega) (by omega) q
    omega
  · have e0 : it = 0 := by omega
    subst e0
    exact absurd ((by decide : ∀ L : Nat, L < 10 → nI L - 10 < nI (10 * 0)) L (by omega)) q
theorem law_loop {p : Program} {e : Env} {s : State} {m : MethodId} {below : List Frame} {meth : Method} {c : Code} (l : Launch) {b L : Nat} {xs : Nat → Int32} {X : mp_X} {G : mp_G} {bq h : Nat} (hL : L ≤ 5120) (hr : meth.sig.returnType = ret) (hlocks : meth.locks = false) (E : lw_E p s m c b L xs X G (fun q : Nat => s.heap.size ≤ q)) :
    ∀ (kk it : Nat) (M : mp_M) (H : Heap) (locs : List Loc) (ls : Array Slot), L < 10 * it + kk → 10 * it ≤ L → INV G X M bq h → mp_P G.1 (fun q : Nat => s.heap.size ≤ q) M H → va_S (fun q : Nat => s.heap.size ≤ q) s.heap H locs → lv_has ls 4 [(3, .int (nI (10 * it))), (2, .ref h), (1, .ref bq), (0, .ref b)] →
      W p l e room_1 s m #[Value.ref b] below meth c H locs (43 + 20 * it) (4735 + 1408 * it) (lw_Z below #[Value.ref b] s) (F0 m 18 ls []) := by
  have E0 := E
  obtain ⟨hx, hb, hml, hown, hts, hX, hbl, hbA, hC⟩ := E0
  intro kk
  induction kk with
  | zero => intro it M H locs ls hk hi; exact absurd hk (by omega)
  | succ kk ih =>
    intro it M H locs ls hk hi hI hM hS hl
    refine lv_iload_n hx hb dL_law_18 rfl (lv_at hl 0 rfl) ?_
    refine lv_aload_n hx hb dL_law_19 rfl (lv_at hl 3 rfl) ?_
    refine va_slen hx hb hX hbl hbA hS dL_law_20 ?_
    refine mp_top (nI L) rfl ?_
    refine lv_bipush (v := (10 : Int32)) hx hb dL_law_21 (by decide) ?_
    refine lv_isub hx hb dL_law_23 ?_
    refine lv_icmp_gt (tgt := 1017) hx hb dL_law_24 (by decide) (fun q => ?_) (fun q => ?_)
    · refine lv_iconst (v := (1 : Int32)) hx hb dL_law_1017 (by decide) ?_
      refine va_forget (fun q hq => hS.2.2 q hq) ?_
      refine W.widen (k := 600000) (n := 7302250) (by omega) (by omega) ?_
      exact lw_ret hx hb hr hlocks dL_law_1018
    have hi2 := lw_more hL hi q
    have NX : ∀ (M : mp_M) (H : Heap) (locs : List Loc), INV G X M bq h → mp_P G.1 (fun q : Nat => s.heap.size ≤ q) M H → va_S (fun q : Nat => s.heap.size ≤ q) s.heap H locs → W p l e room_1 s m #[Value.ref b] below meth c H locs (43 + 20 * it + 20) (4735 + 1408 * it + 1408) (lw_Z below #[Value.ref b] s) (F0 m 1011 ls []) := by
      intro M H locs hI hM hS
      refine lv_iinc (v := nI (10 * it + 10)) (lv' := [(3, .int (nI (10 * it + 10))), (2, .ref h), (1, .ref bq), (0, .ref b)]) hx hb dL_law_1011 hl (k := 0) rfl (nI_add (10 * it) 10) (by decide) rfl (fun ls hl => ?_)
      refine lv_goto (tgt := 18) hx hb dL_law_1014 (by decide) ?_
      refine W.widen (k := 43 + 20 * (it + 1)) (n := 4735 + 1408 * (it + 1)) (by omega) (by omega) ?_
      rw [show 10 * it + 10 = 10 * (it + 1) by omega] at hl
      exact ih (it + 1) M H locs ls (by omega) (by omega) hI hM hS hl
    refine lv_aload_n hx hb dL_law_27 rfl (lv_at hl 3 rfl) ?_
    refine lv_iload_n hx hb dL_law_28 rfl (lv_at hl 0 rfl) ?_
    refine va_sld hx hb hX hbl hbA hS (nI_in (by omega) (by omega)) dL_law_29 ?_
    refine lv_topi (fun x0 ex0 => ?_)
    refine lv_bipush (v := (31 : Int32)) hx hb dL_law_30 (by decide) ?_
    refine lv_iand hx hb dL_law_32 ?_
    refine lv_topi (fun x1 ex1 => ?_)
    by_cases t_0 : x1 = (0 : Int32)
    · refine lv_tableIn (tgt := 140) (off := 107) hx hb dL_law_33 (by rw [t_0]; decide) (by rw [t_0]; decide) (by rw [t_0]; rfl) (by decide) ?_
      exact law_day E hL hi2 hI hM hS hl (by omega) (by omega) NX
    by_cases t_1 : x1 = (1 : Int32)
    · refine lv_tableIn (tgt := 163) (off := 130) hx hb dL_law_33 (by rw [t_1]; decide) (by rw [t_1]; decide) (by rw [t_1]; rfl) (by decide) ?_
      exact law_corner E hL hi2 hI hM hS hl (by omega) (by omega) NX
    by_cases t_2 : x1 = (2 : Int32)
    · refine lv_tableIn (tgt := 196) (off := 163) hx hb dL_law_33 (by rw [t_2]; decide) (by rw [t_2]; decide) (by rw [t_2]; rfl) (by decide) ?_
      exact law_plot E hL hi2 hI hM hS hl (by omega) (by omega) NX
    by_cases t_3 : x1 = (3 : Int32)
    · refine lv_tableIn (tgt := 209) (off := 176) hx hb dL_law_33 (by rw [t_3]; decide) (by rw [t_3]; decide) (by rw [t_3]; rfl) (by decide) ?_
      exact law_ring E hL hi2 hI hM hS hl (by omega) (by omega) NX
    by_cases t_4 : x1 = (4 : Int32)
    · refine lv_tableIn (tgt := 242) (off := 209) hx hb dL_law_33 (by rw [t_4]; decide) (by rw [t_4]; decide) (by rw [t_4]; rfl) (by decide) ?_
      exact law_near E hL hi2 hI hM hS hl (by omega) (by omega) NX
    by_cases t_5 : x1 = (5 : Int32)
    · refine lv_tableIn (tgt := 285) (off := 252) hx hb dL_law_33 (by rw [t_5]; decide) (by rw [t_5]; decide) (by rw [t_5]; rfl) (by decide) ?_
      exact law_feed E hL hi2 hI hM hS hl (by omega) (by omega) NX
    by_cases t_6 : x1 = (6 : Int32)
    · refine lv_tableIn (tgt := 348) (off := 315) hx hb dL_law_33 (by rw [t_6]; decide) (by rw [t_6]; decide) (by rw [t_6]; rfl) (by decide) ?_
      exact law_adopt E hL hi2 hI hM hS hl (by omega) (by omega) NX
    by_cases t_7 : x1 = (7 : Int32)
    · refine lv_tableIn (tgt := 381) (off := 348) hx hb dL_law_33 (by rw [t_7]; decide) (by rw [t_7]; decide) (by rw [t_7]; rfl) (by decide) ?_
      exact law_fault E hL hi2 hI hM hS hl (by omega) (by omega) NX
    by_cases t_8 : x1 = (8 : Int32)
    · refine lv_tableIn (tgt := 394) (off := 361) hx hb dL_law_33 (by rw [t_8]; decide) (by rw [t_8]; decide) (by rw [t_8]; rfl) (by decide) ?_
      exact law_plan E hL hi2 hI hM hS hl (by omega) (by omega) NX
    by_cases t_9 : x1 = (9 : Int32)
    · refine lv_tableIn (tgt := 427) (off := 394) hx hb dL_law_33 (by rw [t_9]; decide) (by rw [t_9]; decide) (by rw [t_9]; rfl) (by decide) ?_
      exact law_zone E hL hi2 hI hM hS hl (by omega) (by omega) NX
    by_cases t_10 : x1 = (10 : Int32)
    · refine lv_tableIn (tgt := 470) (off := 437) hx hb dL_law_33 (by rw [t_10]; decide) (by rw [t_10]; decide) (by rw [t_10]; rfl) (by decide) ?_
      exact law_judge E hL hi2 hI hM hS hl (by omega) (by omega) NX
    by_cases t_11 : x1 = (11 : Int32)
    · refine lv_tableIn (tgt := 581) (off := 548) hx hb dL_law_33 (by rw [t_11]; decide) (by rw [t_11]; decide) (by rw [t_11]; rfl) (by decide) ?_
      exact law_apply E hL hi2 hI hM hS hl (by omega) (by omega) NX
    by_cases t_12 : x1 = (12 : Int32)
    · refine lv_tableIn (tgt := 668) (off := 635) hx hb dL_law_33 (by rw [t_12]; decide) (by rw [t_12]; decide) (by rw [t_12]; rfl) (by decide) ?_
      exact law_object E hL hi2 hI hM hS hl (by omega) (by omega) NX
    by_cases t_13 : x1 = (13 : Int32)
    · refine lv_tableIn (tgt := 701) (off := 668) hx hb dL_law_33 (by rw [t_13]; decide) (by rw [t_13]; decide) (by rw [t_13]; rfl) (by decide) ?_
      exact law_decide E hL hi2 hI hM hS hl (by omega) (by omega) NX
    by_cases t_14 : x1 = (14 : Int32)
    · refine lv_tableIn (tgt := 724) (off := 691) hx hb dL_law_33 (by rw [t_14]; decide) (by rw [t_14]; decide) (by rw [t_14]; rfl) (by decide) ?_
      exact law_build E hL hi2 hI hM hS hl (by omega) (by omega) NX
    by_cases t_15 : x1 = (15 : Int32)
    · refine lv_tableIn (tgt := 747) (off := 714) hx hb dL_law_33 (by rw [t_15]; decide) (by rw [t_15]; decide) (by rw [t_15]; rfl) (by decide) ?_
      exact law_appeal E hL hi2 hI hM hS hl (by omega) (by omega) NX
    by_cases t_16 : x1 = (16 : Int32)
    · refine lv_tableIn (tgt := 770) (off := 737) hx hb dL_law_33 (by rw [t_16]; decide) (by rw [t_16]; decide) (by rw [t_16]; rfl) (by decide) ?_
      exact law_clash E hL hi2 hI hM hS hl (by omega) (by omega) NX
    by_cases t_17 : x1 = (17 : Int32)
    · refine lv_tableIn (tgt := 793) (off := 760) hx hb dL_law_33 (by rw [t_17]; decide) (by rw [t_17]; decide) (by rw [t_17]; rfl) (by decide) ?_
      exact law_told E hL hi2 hI hM hS hl (by omega) (by omega) NX
    by_cases t_18 : x1 = (18 : Int32)
    · refine lv_tableIn (tgt := 826) (off := 793) hx hb dL_law_33 (by rw [t_18]; decide) (by rw [t_18]; decide) (by rw [t_18]; rfl) (by decide) ?_
      exact law_raze E hL hi2 hI hM hS hl (by omega) (by omega) NX
    by_cases t_19 : x1 = (19 : Int32)
    · refine lv_tableIn (tgt := 859) (off := 826) hx hb dL_law_33 (by rw [t_19]; decide) (by rw [t_19]; decide) (by rw [t_19]; rfl) (by decide) ?_
      exact law_stands E hL hi2 hI hM hS hl (by omega) (by omega) NX
    by_cases t_20 : x1 = (20 : Int32)
    · refine lv_tableIn (tgt := 902) (off := 869) hx hb dL_law_33 (by rw [t_20]; decide) (by rw [t_20]; decide) (by rw [t_20]; rfl) (by decide) ?_
      exact law_hold E hL hi2 hI hM hS hl (by omega) (by omega) NX
    by_cases t_21 : x1 = (21 : Int32)
    · refine lv_tableIn (tgt := 945) (off := 912) hx hb dL_law_33 (by rw [t_21]; decide) (by rw [t_21]; decide) (by rw [t_21]; rfl) (by decide) ?_
      exact law_holder E hL hi2 hI hM hS hl (by omega) (by omega) NX
    by_cases t_22 : x1 = (22 : Int32)
    · refine lv_tableIn (tgt := 988) (off := 955) hx hb dL_law_33 (by rw [t_22]; decide) (by rw [t_22]; decide) (by rw [t_22]; rfl) (by decide) ?_
      exact law_count E hL hi2 hI hM hS hl (by omega) (by omega) NX
    refine lv_tableOut (tgt := 1011) hx hb dL_law_33 (by have u_0 := lv_neT t_0 (a := 0) rfl; have u_1 := lv_neT t_1 (a := 1) rfl; have u_2 := lv_neT t_2 (a := 2) rfl; have u_3 := lv_neT t_3 (a := 3) rfl; have u_4 := lv_neT t_4 (a := 4) rfl; have u_5 := lv_neT t_5 (a := 5) rfl; have u_6 := lv_neT t_6 (a := 6) rfl; have u_7 := lv_neT t_7 (a := 7) rfl; have u_8 := lv_neT t_8 (a := 8) rfl; have u_9 := lv_neT t_9 (a := 9) rfl; have u_10 := lv_neT t_10 (a := 10) rfl; have u_11 := lv_neT t_11 (a := 11) rfl; have u_12 := lv_neT t_12 (a := 12) rfl; have u_13 := lv_neT t_13 (a := 13) rfl; have u_14 := lv_neT t_14 (a := 14) rfl; have u_15 := lv_neT t_15 (a := 15) rfl; have u_16 := lv_neT t_16 (a := 16) rfl; have u_17 := lv_neT t_17 (a := 17) rfl; have u_18 := lv_neT t_18 (a := 18) rfl; have u_19 := lv_neT t_19 (a := 19) rfl; have u_20 := lv_neT t_20 (a := 20) rfl; have u_21 := lv_neT t_21 (a := 21) rfl; have u_22 := lv_neT t_22 (a := 22) rfl; omega) (by decide) ?_
    exact W.widen (k := 43 + 20 * it + 20) (n := 4735 + 1408 * it + 1408) (by omega) (by omega) (NX M H locs hI hM hS)
theorem lw_m2 (G : mp_G) (M : mp_M) (h : Nat) : mp_set M (9, 0, 0) (h, .inr (9, md_fs2 (fun _ => none) (fun _ => 0))) = md_M2 G M h (fun _ => none) (fun _ => 0) := by
  funext q
  unfold mp_set md_M2
  by_cases h1 : q = (9, 0, 0)
  · rw [if_pos h1, if_pos h1]
  · rw [if_neg h1, if_neg h1]
    by_cases h2 : q.1 = 9 ∧ q.2.1 = 1
    · rw [if_pos h2]
      cases md_arr q.2.2 <;> rfl
    · rw [if_neg h2]
theorem lw_tie0 : TIE md_n0 md_f0 0 0 (-1) (fun _ => 0) 0 (fun _ => (fun _ => 0, fun _ => 0, 0)) 0 (fun _ => 0) (fun _ => 0) (fun _ => 0) (fun _ _ => zr0) 0 (fun _ _ => 0) (fun _ => (0, 0, 0, 0, 0, 0, 0)) 0 (fun _ _ => 0) := by
  refine ⟨⟨⟨rfl, ⟨by decide, by decide⟩⟩, rfl, rfl, rfl, rfl, rfl, rfl, rfl, rfl, fun _ => rfl⟩, ⟨fun i hi => ⟨fun j hj => absurd hj (Nat.not_lt_zero j), ?_, Nat.zero_le 8⟩, fun i hi => absurd hi (Nat.not_lt_zero i)⟩, fun i hi => absurd hi (Nat.not_lt_zero i), ⟨fun i hi => absurd hi (Nat.not_lt_zero i), fun i _ => ⟨rfl, rfl, rfl, rfl, fun _ _ => rfl⟩⟩, fun i hi => absurd hi (Nat.not_lt_zero i)⟩
  intro j hj
  exact absurd hj (Nat.not_lt_zero j)
theorem lw_d7 : ∀ j, j < 9 → defaultValue (tyX7 j) = vp_V [.null, .null, .null, .null, .null, .null, .int 0, .int 0, .int 0] j
  | 0, _ => rfl
  | 1, _ => rfl
  | 2, _ => rfl
  | 3, _ => rfl
  | 4, _ => rfl
  | 5, _ => rfl
  | 6, _ => rfl
  | 7, _ => rfl
  | 8, _ => rfl
  | k + 9, hk => absurd hk (by omega)
theorem lw_d8 : ∀ j, j < 45 → defaultValue (tyX8 j) = vp_V (md_fs2 (fun _ => none) (fun _ => 0)) j
  | 0, _ => rfl
  | 1, _ => rfl
  | 2, _ => rfl
  | 3, _ => rfl
  | 4, _ => rfl
  | 5, _ => rfl
  | 6, _ => rfl
  | 7, _ => rfl
  | 8, _ => rfl
  | 9, _ => rfl
  | 10, _ => rfl
  | 11, _ => rfl
  | 12, _ => rfl
  | 13, _ => rfl
  | 14, _ => rfl
  | 15, _ => rfl
  | 16, _ => rfl
  | 17, _ => rfl
  | 18, _ => rfl
  | 19, _ => rfl
  | 20, _ => rfl
  | 21, _ => rfl
  | 22, _ => rfl
  | 23, _ => rfl
  | 24, _ => rfl
  | 25, _ => rfl
  | 26, _ => rfl
  | 27, _ => rfl
  | 28, _ => rfl
  | 29, _ => rfl
  | 30, _ => rfl
  | 31, _ => rfl
  | 32, _ => rfl
  | 33, _ => rfl
  | 34, _ => rfl
  | 35, _ => rfl
  | 36, _ => rfl
  | 37, _ => rfl
  | 38, _ => rfl
  | 39, _ => rfl
  | 40, _ => rfl
  | 41, _ => rfl
  | 42, _ => rfl
  | 43, _ => rfl
  | 44, _ => rfl
  | k + 45, hk => absurd hk (by omega)
theorem lw_g5 : ∀ w ∈ [Cond.classLink RL 7 RX7, .instantiable RX7 9, .initialized RX7, .methodLink RL 9 yX7_init, .instanceMethod yX7_init, .classLink RL 10 RX8, .instantiable RX8 45, .initialized RX8, .methodLink RL 12 yX8_init, .instanceMethod yX8_init], w ∈ lw_tbl := by decide +kernel
/-- from the entry, for every script of at most 5120 ints, the law comes to its end with true -/
theorem whole_start {p : Program} {e : Env} {s : State} {m : MethodId} {below : List Frame} {meth : Method} {c : Code} (l : Launch) {b L : Nat} {xs : Nat → Int32} (hL : L ≤ 5120) (C0 : lw_At p s m meth c b L xs) : W p l e room_1 s m #[Value.ref b] below meth c s.heap [] 0 0 (lw_Z below #[Value.ref b] s) (entryFrame m ([Value.ref b] : List Value).toArray 4) := by
  obtain ⟨hx, hb, hr, hml, hown, htl, hX, hbl, hlocks, hgv⟩ := id C0
  obtain ⟨X, G, hC⟩ := lw_C htl hgv
  have hts : ∀ w ∈ wsL_law, w.before #[Value.ref b] s = true := fun w hw => htl w (wsL_law_in w hw)
  have g5 := fun w hw => htl w (lw_g5 w hw)
  have hown : s.vm.findClass RL = some m.cls := hown
  have E : lw_E p s m c b L xs X G (fun q : Nat => s.heap.size ≤ q) := ⟨hx, hb, hml, hown, hts, hX, hbl, Nat.not_le.mpr hbl, hC⟩
  have hS : va_S (fun q : Nat => s.heap.size ≤ q) s.heap s.heap [] := va_S.rf
  have hM : mp_P G.1 (fun q : Nat => s.heap.size ≤ q) (fun _ => none) s.heap := ⟨fun _ _ h => (by cases h), fun _ _ _ _ h => (by cases h), fun _ _ h => (by cases h)⟩
  have hl := lv_entry ([.ref b]) (n := 4) (Nat.le_of_ble_eq_true rfl)
  rw [lg_entry_eq]
  generalize (lg_sl ([.ref b]) ++ List.replicate (4 - (lg_sl ([.ref b])).length) Slot.unset).toArray = ls at hl ⊢
  have hl : lv_has ls 4 [(0, .ref b)] := hl
  refine mp_new (kn := (8, 0, 0)) (C := RX7) (T := TX7) (N := 9) (ci := 8) (fs := [.null, .null, .null, .null, .null, .null, .int 0, .int 0, .int 0]) hx hb hts inlX7 tyX7 tyX7_ok hown (g5 (.classLink RL 7 RX7) (by simp)) (g5 (.instantiable RX7 9) (by simp)) (g5 (.initialized RX7) (by simp)) hC.1 hM hS hC.2.2.2 rfl lw_d7 (Nat.le_of_ble_eq_true rfl) (Nat.le_of_ble_eq_true rfl) dL_law_0 rfl (fun bq H hM hS => ?_)
  refine lv_dup hx hb dL_law_3 rfl ?_
  refine mp_call (va_runI (As := []) (rest := [.ref bq]) ⟨hx, hb, hml, hown, hts⟩ (c_X7_init l X G (fun q : Nat => s.heap.size ≤ q) _ bq (mp_set_s _ _ _) (fun k hk _ => mp_set_n _ _ _ hk)) (cwI 0 hts gL_law_X7_init rfl rfl rfl (g5 (.initialized RX7) (by simp)) (g5 (.methodLink RL 9 yX7_init) (by simp)) (g5 (.instanceMethod yX7_init) (by simp)) rfl (by decide +kernel) ⟨Nat.le_of_ble_eq_true rfl, Nat.le_of_ble_eq_true rfl⟩) (mp_preS hC hS hM) rfl rfl hl.1 rfl (lv_room (Nat.le_of_ble_eq_true rfl)) dL_law_4 ⟨Nat.le_of_ble_eq_true rfl, Nat.le_of_ble_eq_true rfl⟩) hS (fun v M1 H locs hp hM hS => ?_)
  obtain ⟨rfl, ⟨q0, q1, q2, q3, qt, ra0, hB⟩, h9⟩ := hp
  refine mp_stk (st := [.ref bq]) rfl ?_
  refine lv_astore_n (lv' := [(1, .ref bq), (0, .ref b)]) hx hb dL_law_7 rfl hl (by decide) rfl (fun ls hl => ?_)
  refine mp_new (kn := (9, 0, 0)) (C := RX8) (T := TX8) (N := 45) (ci := 9) (fs := md_fs2 (fun _ => none) (fun _ => 0)) hx hb hts inlX8 tyX8 tyX8_ok hown (g5 (.classLink RL 10 RX8) (by simp)) (g5 (.instantiable RX8 45) (by simp)) (g5 (.initialized RX8) (by simp)) hC.1 hM hS hC.2.2.2 rfl lw_d8 (Nat.le_of_ble_eq_true rfl) (Nat.le_of_ble_eq_true rfl) dL_law_8 ((h9 (9, 0, 0) rfl).trans (mp_set_n _ _ _ (by simp))) (fun h H hM hS => ?_)
  rw [lw_m2 G M1 h] at hM
  refine lv_dup hx hb dL_law_11 rfl ?_
  refine mp_call (va_runI (As := []) (rest := [.ref h]) ⟨hx, hb, hml, hown, hts⟩ (c_X8_init l X G (fun q : Nat => s.heap.size ≤ q) M1 h (fun k => (h9 (9, 1, k) rfl).trans (mp_set_n _ _ _ (by simp)))) (cwI 0 hts gL_law_X8_init rfl rfl rfl (g5 (.initialized RX8) (by simp)) (g5 (.methodLink RL 12 yX8_init) (by simp)) (g5 (.instanceMethod yX8_init) (by simp)) rfl (by decide +kernel) ⟨Nat.le_of_ble_eq_true rfl, Nat.le_of_ble_eq_true rfl⟩) (mp_preS hC hS hM) rfl rfl hl.1 rfl (lv_room (Nat.le_of_ble_eq_true rfl)) dL_law_12 ⟨Nat.le_of_ble_eq_true rfl, Nat.le_of_ble_eq_true rfl⟩) hS (fun v M2 H locs hp hM hS => ?_)
  obtain ⟨rfl, ad, rfl⟩ := hp
  have hI : INV G X (md_M G M1 h ad md_n0 md_f0) bq h := INV.mk2 ((h9 (9, 2, 0) rfl).trans (mp_set_n _ _ _ (by simp))) hB lw_tie0
  refine mp_stk (st := [.ref h]) rfl ?_
  refine lv_astore_n (lv' := [(2, .ref h), (1, .ref bq), (0, .ref b)]) hx hb dL_law_15 rfl hl (by decide) rfl (fun ls hl => ?_)
  refine lv_iconst (v := (0 : Int32)) hx hb dL_law_16 (by decide) ?_
  refine lv_istore_n (lv' := [(3, .int (0 : Int32)), (2, .ref h), (1, .ref bq), (0, .ref b)]) hx hb dL_law_17 rfl hl (by decide) rfl (fun ls hl => ?_)
  have hl : lv_has ls 4 [(3, .int (nI (10 * 0))), (2, .ref h), (1, .ref bq), (0, .ref b)] := hl
  exact W.widen (k := 43 + 20 * 0) (n := 4735 + 1408 * 0) (by omega) (by omega) (law_loop l hL hr hlocks E (L + 1) 0 _ H locs ls (by omega) (by omega) hI hM hS hl)
-- ===== YOUR PART ENDS =====
set_option maxHeartbeats 4000000 in
theorem lw_walk (l : Launch) (b : Addr) (xs : List Int32) : MetFree l x (headSpec (Jvm.Cond.code x code maxLocals ret :: tables_1) room_1) (lw_P b xs) (fun _ _ _ _ _ => True) lw_Q := by
  refine MetFree.of_bodyS (code := code) (maxLocals := maxLocals) (ret := ret) (by decide) ?_ ?_
  · intro args s m h hn
    obtain ⟨meth, c, h1, h2, h3, h4, h5, h6, -, -⟩ := Cond.code_spec hn (atoms_spec (ws := Jvm.Cond.code x code maxLocals ret :: tables_1) h _ List.mem_cons_self)
    exact ⟨meth, c, h1, h2, h3, h4, h5, h6⟩
  · intro p e s m args below meth c s₁ B hml0 hP _
    obtain ⟨rfl, hx, hbd, hgv⟩ := hP
    obtain ⟨scr, harrAt, hlist, hof, hsmall⟩ := hx
    obtain ⟨hcb, hkn, -, -⟩ := State.arrayAt?_spec harrAt
    have hown : s.vm.findClass R_law = some m.cls := findClass_of_methodNamed B.named
    have hts0 : ∀ c ∈ (Jvm.Cond.code x code maxLocals ret :: tables_1), c.before #[Value.ref b] s = true := atoms_spec (ws := Jvm.Cond.code x code maxLocals ret :: tables_1) B.pre
    have hts : ∀ w ∈ lw_tbl, w.before #[Value.ref b] s = true := k2_hts_sels lw_privs (fun w hw => hts0 w (List.mem_cons_of_mem _ hw)) lw_privs_ok
    have hml : c.maxLocals = 4 := B.maxLocals_eq (hts0 _ List.mem_cons_self)
    have X₀ : Stand p l e room_1 s m #[Value.ref b] below meth c s₁ [] 0 0 := Stand.of_body B
    have hh0 : s₁.heap = s.heap := by rw [B.state]; rfl
    have hsz : scr.slots.size = xs.length := by rw [← Array.length_toList, hlist, List.length_map]
    have hval : ∀ j : Nat, j < xs.length → scr.slots[j]? = some (.int (xs.getD j 0)) := fun j hj => by
      rw [← Array.getElem?_toList, hlist]
      simp [hj]
    have hbl : b < s.heap.size := (Array.getElem?_eq_some_iff.mp hcb).1
    have hX : va_X b xs.length (fun j => xs.getD j 0) s s.heap := ⟨scr, hcb, hof, hkn, hsz, hval⟩
    have K : W p l e room_1 s m #[Value.ref b] below meth c s₁.heap [] 0 0 (lw_Z below #[Value.ref b] s) (entryFrame m ([Value.ref b] : List Value).toArray 4) := by
      rw [hh0]
      exact whole_start l hbd ⟨B.exec, B.bytes, B.returns, hml, hown, hts, hX, hbl, B.notSynchronized, hgv⟩
    obtain ⟨t, a1, o, b1, b2, b3⟩ := K s₁ rfl X₀
    exact ⟨t, o, a1, b1, b2, b3⟩
theorem lw_pre_spec {args : Array Value} {s : State} (h : (Jvm.Cond.and given_1 narrow_1).before args s = true) (hr : rest_1_c.before args s = true) : ∃ (b : Addr) (xs : List Int32), lw_P b xs args s := by
  have hs := flat_of_before _ h
  have hq := flat_of_before _ hr
  have hc : (Cond.count 1).before args s = true := hs _ (by decide +kernel)
  have harr : (Cond.arrayOf (.arg 0) .int).before args s = true := hs _ (by decide +kernel)
  have hle : (Cond.le (.length (.arg 0)) (.int 5120)).before args s = true := hs _ (by decide +kernel)
  have hlen : (Cond.isInt (.length (.arg 0))).before args s = true := hq _ (by decide +kernel)
  have hall : (Cond.all (.arg 0) (.isInt (.elem (.arg 0) (.index 0)))).before args s = true := hq _ (by decide +kernel)
  obtain ⟨b, xs, hb, hx⟩ := State.ints_of_pre rfl harr hlen hall
  have hsm : xs.length < 2 ^ 31 := hx.choose_spec.2.2.2
  have hev : (Term.length (.arg 0)).eval args s none [] s = some (.int xs.length.toInt32) := hx.length_eval hb
  have hv := Cond.le_ints hev (show (Term.int 5120).eval args s none [] s = some (.int 5120) from rfl)
  have hd : xs.length.toInt32 ≤ 5120 := by
    simpa [Cond.before, Cond.holds, hv] using hle
  have hN : xs.length ≤ 5120 := (Int32.ofNat_le_ofNat hsm (by decide)).mp (show Int32.ofNat xs.length ≤ Int32.ofNat 5120 from hd)
  exact ⟨b, xs, Cond.one_arg hc (show args[0]? = some (.ref b) from hb), hx, hN, h⟩
theorem lw_comes (l : Launch) : Comes l x (Jvm.Cond.code x code maxLocals ret :: tables_1) room_1 (fun tb e args s => Calls_1 tb e args s ∧ rest_1 tb e args s ∧ Pre_1 tb e args s)
    (fun _ _ args s o t => lw_Q args s o t) := by
  intro p e ha hc hk s m args below hf hfit hheap happ hpre
  obtain ⟨b, xs, hP⟩ := lw_pre_spec hpre.2.2 hpre.2.1
  obtain ⟨k, o, h1, h2, h3, hQ⟩ := lw_walk l b xs p e ha hc hk s m args below hf ((Spec.applies_iff_loose hf).mp happ).1 hP trivial
  exact ⟨k, o, h1, h2, h3, hQ⟩
theorem lw_frame {s t : State} {o : Outcome} {args : Array Value} (h : Framed s o t [] 600000 7302250) :
    Framed s o t (fieldLocs frame_1_writes args s ++ arrayLocs frame_1_arrays args s ++ staticLocs frame_1_statics s) 600000 7302250 := h
theorem lw_limb (L : Cond) (hL : ∀ (args : Array Value) (s t : State), L.after args s (.returned (some (.int 1))) t = true) :
    ArmFor flags0 classFile x code maxLocals ret World_1 tables_1 room_1 Calls_1 rest_1 Pre_1
      (fun tb e a s o t => postC L tb e a s o t ∧ Framed s o t (fieldLocs frame_1_writes a s ++ arrayLocs frame_1_arrays a s ++ staticLocs frame_1_statics s) 600000 7302250) := by
  intro l _ _ _ p e ha hc hk s m args below hf hfit hheap happ hpre
  obtain ⟨k, o, h1, h2, h3, rfl, hF⟩ := lw_comes l p e ha hc hk s m args below hf hfit hheap happ hpre
  exact ⟨k, _, h1, h2, h3, hL args s _, lw_frame hF⟩
theorem i_vc : Claimed_1_1 ∧ Claimed_1_2 := ⟨lw_limb limb_1_1 (fun args s t => by simp [limb_1_1, Cond.after, Cond.holds, Cond.value]), lw_limb limb_1_2 (fun args s t => Cond.after_iff.mpr (by
  first | (rw [show limb_1_2 = Cond.eq .result (.int 1) from rfl, Cond.eq_ints (x := 1) (y := 1) rfl rfl]; simp; done) | (simp [limb_1_2, Cond.value, Term.eval]; done)))⟩
