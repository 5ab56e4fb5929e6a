/-! ===== the bench grows ===== -/
theorem c_addY (l : Launch) (X : mp_X) (G : mp_G) (A : Nat → Prop) (M : mp_M) (i0 r1 ax1 ay1 : Nat) (R1 : rg_R) (hR1 : M (4, i0, 0) = some (r1, .inr (6, [.ref ax1, .ref ay1, .int (nI R1.2.2)]))) (hX1 : M (5, i0, 0) = some (ax1, .inl (G.2.2.1, 8, .inl R1.1))) (hY1 : M (6, i0, 0) = some (ay1, .inl (G.2.2.1, 8, .inl R1.2.1))) (hs1 : R1.2.2 ≤ 8) (x y : Int32) (hh : R1.2.2 < 8) : mp_Met l X G A yX5_addCorner wsX5_addCorner rmX5_addCorner ([.ref r1, .int x, .int y] : List Value) M (fun r M1 => r = some (.int 1) ∧ M1 = mp_set (mp_set (mp_set M (5, i0, 0) (ax1, .inl (G.2.2.1, 8, .inl (upd R1.1 R1.2.2 x)))) (6, i0, 0) (ay1, .inl (G.2.2.1, 8, .inl (upd R1.2.1 R1.2.2 y)))) (4, i0, 0) (r1, .inr (6, [.ref ax1, .ref ay1, .int (nI (R1.2.2 + 1))]))) 0 0 := by
  have h := c_X5_addCorner l X G A M i0 r1 ax1 ay1 R1 hR1 hX1 hY1 hs1 x y
  rw [pB_t hh] at h
  exact h
theorem c_addN (l : Launch) (X : mp_X) (G : mp_G) (A : Nat → Prop) (M : mp_M) (i0 r1 ax1 ay1 : Nat) (R1 : rg_R) (hR1 : M (4, i0, 0) = some (r1, .inr (6, [.ref ax1, .ref ay1, .int (nI R1.2.2)]))) (hX1 : M (5, i0, 0) = some (ax1, .inl (G.2.2.1, 8, .inl R1.1))) (hY1 : M (6, i0, 0) = some (ay1, .inl (G.2.2.1, 8, .inl R1.2.1))) (hs1 : R1.2.2 ≤ 8) (x y : Int32) (hh : ¬ R1.2.2 < 8) : mp_Met l X G A yX5_addCorner wsX5_addCorner rmX5_addCorner ([.ref r1, .int x, .int y] : List Value) M (fun r M1 => r = some (.int 0) ∧ M1 = M) 0 0 := by
  have h := c_X5_addCorner l X G A M i0 r1 ax1 ay1 R1 hR1 hX1 hY1 hs1 x y
  rw [pB_f hh] at h
  exact h
theorem BN.Rc {G : mp_G} {X : mp_X} {M : mp_M} {bq : Nat} {l0 : Nat} {l1 : Nat} {l2 : Nat} {l3 : Nat} {tp : Nat} {tz : Nat} {td : Int32} {fl : Int32} {tt : Nat → Int32} {pl : Nat} {ra : Nat → Nat} {Rg : Nat → rg_R} {pn : Nat} {pa : Nat → Nat} {pf : Nat → Int32} {pk : Nat → Int32} {zc : Nat → Nat} {zz : Nat → Nat → zr} {ap : Nat} {aa : Nat → Nat} {dq : Nat → Nat} {av : Nat → Nat → Int32} {dv : Nat → ds_D} {nh : Nat} {ah : Nat → Nat} {vh : Nat → Nat → Int32} (h : BN G X M bq l0 l1 l2 l3 tp tz td fl tt pl ra Rg pn pa pf pk zc zz ap aa dq av dv nh ah vh) {i : Nat} (hi : i ≤ pl) : ∃ fs : List Value, M (4, i, 0) = some (ra i, .inr (6, fs)) := by
  obtain ⟨ax, ay, h1, _⟩ := h.R hi
  exact ⟨_, h1⟩
theorem RgN.congr6 {G : mp_G} {M M1 : mp_M} {i a : Nat} {R : rg_R} (h : RgN G M i a R) (e : ∀ j : mp_N, j.1 ∈ [4, 5, 6] → j.2.1 = i → M1 j = M j) : RgN G M1 i a R := by
  obtain ⟨ax, ay, h1, h2, h3, h4⟩ := h
  exact ⟨ax, ay, (e _ (by simp) rfl).trans h1, (e _ (by simp) rfl).trans h2, (e _ (by simp) rfl).trans h3, h4⟩
theorem BN.nring {G : mp_G} {X : mp_X} {M : mp_M} {M1 : mp_M} {bq : Nat} {l0 : Nat} {l1 : Nat} {l2 : Nat} {l3 : Nat} {tp : Nat} {tz : Nat} {td : Int32} {fl : Int32} {tt : Nat → Int32} {pl : Nat} {ra : Nat → Nat} {Rg : Nat → rg_R} {pn : Nat} {pa : Nat → Nat} {pf : Nat → Int32} {pk : Nat → Int32} {zc : Nat → Nat} {zz : Nat → Nat → zr} {ap : Nat} {aa : Nat → Nat} {dq : Nat → Nat} {av : Nat → Nat → Int32} {dv : Nat → ds_D} {nh : Nat} {ah : Nat → Nat} {vh : Nat → Nat → Int32} (h : BN G X M bq l0 l1 l2 l3 tp tz td fl tt pl ra Rg pn pa pf pk zc zz ap aa dq av dv nh ah vh) {q : Nat} (hpl : pl < 12) (hO : M1 (8, 0, 0) = some (bq, .inr (8, [.ref l0, .ref l1, .ref l2, .ref l3, .ref tp, .ref q, .int (nI tz), .int td, .int fl]))) (hL : Lst G X M1 (17, 0, 0) (18, 0, 0) l0 (pl + 1) (elU ra pl (ra pl))) (hR : RgN G M1 (pl + 1) q (fun _ => 0, fun _ => 0, 0)) (e : ∀ j : mp_N, j.1 ∉ [8, 17, 18] → (j.1 ∈ [4, 5, 6] → j.2.1 ≠ pl + 1) → M1 j = M j) : BN G X M1 bq l0 l1 l2 l3 tp tz td fl tt (pl + 1) (elU ra (pl + 1) q) (va_up Rg (pl + 1) (fun _ => 0, fun _ => 0, 0)) pn pa pf pk zc zz ap aa dq av dv nh ah vh := by
  have e2 : ∀ j : mp_N, j.1 ∉ [4, 5, 6, 8, 17, 18] → M1 j = M j := fun j hj => e j (by simp at hj ⊢; omega) (fun z => by simp at hj z; omega)
  refine ⟨by rw [elU_s]; exact hO, (e2 _ (by simp)).trans h.T, h.tz9, (e2 _ (by simp)).trans h.n14, (e2 _ (by simp)).trans h.n16, ?_, h.p.congr (fun j hj => e2 j (by simp at hj ⊢; omega)), h.a.congr (fun j hj => e2 j (by simp at hj ⊢; omega)), h.h.congr (fun j hj => e2 j (by simp at hj ⊢; omega))⟩
  refine ⟨hL.els (fun i hi => ?_), by omega, fun i hi => ?_, fun i hi => ?_⟩
  · rw [elU_n _ _ _ (by omega)]
    by_cases ei : i = pl
    · rw [ei, elU_s]
    · rw [elU_n _ _ _ ei]
  · by_cases ei : i = pl + 1
    · rw [ei, elU_s, va_up_self]
      exact hR
    · rw [elU_n _ _ _ ei, va_up_ne _ _ ei]
      exact RgN.congr6 (h.R (by omega)) (fun j hj hj2 => e j (by simp at hj ⊢; omega) (fun _ => by rw [hj2]; exact ei))
  · obtain ⟨a, b, c0⟩ := h.r.2.2.2 i (by omega)
    exact ⟨(e _ (by simp) (fun _ => by show i ≠ pl + 1; omega)).trans a, (e _ (by simp) (fun _ => by show i ≠ pl + 1; omega)).trans b, (e _ (by simp) (fun _ => by show i ≠ pl + 1; omega)).trans c0⟩
theorem ca_bast {p : Program} {l : Launch} {e : Env} {R : Room} {s : State} {m : MethodId} {args : Array Value} {below : List Frame} {meth : Method} {c : Code} {H : Heap} {locs : List Loc} {cells slots : Nat} {Q : State → Prop} {cc : ByteArray} {pc : Nat} {ls : Array Slot} {rest : List Value} {X : mp_X} {G : mp_G} {A : Nat → Prop} {M : mp_M} {a n : Nat} {kn : mp_N} {f : Nat → Int32}
    (hx : p.tables.exec = Jvm.exec) (hb : c.code = cc) (hC : mp_C X G A s s.heap) (hM : mp_P G.1 A M H) (hS : va_S A s.heap H locs) (ha : M kn = some (a, .inl (G.2.1, n, .inl f))) {j : Nat} (hj : j < n) (hl : n < 2 ^ 31) {x : Int32} (hx2 : vp_nar .byte x = x) (hdg : decode cc pc = .ok (.bastore, 1))
    (kk : ∀ (H1 : Heap) (locs1 : List Loc), mp_P G.1 A (mp_set M kn (a, .inl (G.2.1, n, .inl (upd f j x)))) H1 → va_S A s.heap H1 locs1 → W p l e R s m args below meth c H1 locs1 cells slots Q (F0 m (pc + 1) ls rest)) : W p l e R s m args below meth c H locs cells slots Q (F0 m pc ls (.int x :: .int (nI j) :: .ref a :: rest)) := by
  refine mp_bast hx hb hC.1 hM hS 0 ha rfl (vp_in_nI hj hl) hdg (fun H1 locs1 h1 h2 => ?_)
  rw [nI_clamp (Nat.lt_trans hj hl), hx2] at h1
  exact kk H1 locs1 h1 h2
theorem tpb_nar (v k : Int32) : vp_nar .byte (tp_b v k) = tp_b v k := pk_vb _
theorem tpb_gen (v : Int32) (k : Nat) (hk : k ≤ 24) (x y : Int32) (hx : x.toBitVec = v.toBitVec >>> k) (hy : y.toBitVec = v.toBitVec.sshiftRight k) : x.toInt8.toInt32 = y.toInt8.toInt32 := by
  have e : x.toInt8 = y.toInt8 := by
    apply Int8.toBitVec_inj.mp
    show x.toBitVec.signExtend 8 = y.toBitVec.signExtend 8
    rw [BitVec.signExtend_eq_setWidth_of_le _ (by decide), BitVec.signExtend_eq_setWidth_of_le _ (by decide), hx, hy]
    apply BitVec.eq_of_getLsbD_eq
    intro i hi
    rw [BitVec.getLsbD_setWidth, BitVec.getLsbD_setWidth, BitVec.getLsbD_ushiftRight, BitVec.getLsbD_sshiftRight]
    simp [show k + i < 32 by omega, show ¬ 32 ≤ i by omega]
  rw [e]
theorem tpb_24 (v : Int32) : (v.toUInt32 >>> ((24 : Int32).toUInt32 &&& Int32.toUInt32 31)).toInt32.toInt8.toInt32 = tp_b v 24 := tpb_gen v 24 (by decide) _ _ rfl rfl
theorem tpb_16 (v : Int32) : (v.toUInt32 >>> ((16 : Int32).toUInt32 &&& Int32.toUInt32 31)).toInt32.toInt8.toInt32 = tp_b v 16 := tpb_gen v 16 (by decide) _ _ rfl rfl
theorem tpb_8 (v : Int32) : (v.toUInt32 >>> ((8 : Int32).toUInt32 &&& Int32.toUInt32 31)).toInt32.toInt8.toInt32 = tp_b v 8 := tpb_gen v 8 (by decide) _ _ rfl rfl
theorem tpb_0 (v : Int32) : (v.toUInt32 >>> ((0 : Int32).toUInt32 &&& Int32.toUInt32 31)).toInt32.toInt8.toInt32 = tp_b v 0 := tpb_gen v 0 (by decide) _ _ rfl rfl
def apv0 (td : Int32) : Nat → Int32
  | 1 => td
  | 6 => -1
  | 7 => -1
  | 8 => -1
  | 10 => -1
  | 11 => -1
  | _ => 0
def hov0 (q w t td : Int32) : Nat → Int32
  | 0 => q
  | 1 => w
  | 2 => t
  | _ => td
theorem BN.napp {G : mp_G} {X : mp_X} {M : mp_M} {M1 : mp_M} {bq : Nat} {l0 : Nat} {l1 : Nat} {l2 : Nat} {l3 : Nat} {tp : Nat} {tz : Nat} {td : Int32} {fl : Int32} {tt : Nat → Int32} {pl : Nat} {ra : Nat → Nat} {Rg : Nat → rg_R} {pn : Nat} {pa : Nat → Nat} {pf : Nat → Int32} {pk : Nat → Int32} {zc : Nat → Nat} {zz : Nat → Nat → zr} {ap : Nat} {aa : Nat → Nat} {dq : Nat → Nat} {av : Nat → Nat → Int32} {dv : Nat → ds_D} {nh : Nat} {ah : Nat → Nat} {vh : Nat → Nat → Int32} (h : BN G X M bq l0 l1 l2 l3 tp tz td fl tt pl ra Rg pn pa pf pk zc zz ap aa dq av dv nh ah vh) {qa qd : Nat} {v : Nat → Int32} {D : ds_D} (hap : ap < 40) (hL : Lst G X M1 (21, 0, 0) (22, 0, 0) l2 (ap + 1) (elU aa ap qa)) (h1 : M1 (1, ap, 0) = some (qa, .inr (1, ap_fs qd v))) (h2 : M1 (2, ap, 0) = some (qd, .inr (2, ds_fs D))) (e : ∀ j : mp_N, j.1 ∉ [21, 22] → (j.1 ∈ [1, 2] → j.2.1 ≠ ap) → M1 j = M j) : BN G X M1 bq l0 l1 l2 l3 tp tz td fl tt pl ra Rg pn pa pf pk zc zz (ap + 1) (elU aa ap qa) (elU dq ap qd) (va_up av ap v) (va_up dv ap D) nh ah vh := by
  have e2 : ∀ j : mp_N, j.1 ∉ [1, 2, 21, 22] → M1 j = M j := fun j hj => e j (by simp at hj ⊢; omega) (fun z => by simp at hj z; omega)
  refine ⟨(e2 _ (by simp)).trans h.O, (e2 _ (by simp)).trans h.T, h.tz9, (e2 _ (by simp)).trans h.n14, (e2 _ (by simp)).trans h.n16, h.r.congr (fun j hj => e2 j (by simp at hj ⊢; omega)), h.p.congr (fun j hj => e2 j (by simp at hj ⊢; omega)), ?_, h.h.congr (fun j hj => e2 j (by simp at hj ⊢; omega))⟩
  refine ⟨hL, by omega, fun i hi => ?_, fun i hi => ?_⟩
  · by_cases ei : i = ap
    · rw [ei, elU_s, elU_s, va_up_self, va_up_self]
      exact ⟨h1, h2⟩
    · rw [elU_n _ _ _ ei, elU_n _ _ _ ei, va_up_ne _ _ ei, va_up_ne _ _ ei]
      exact ⟨(e _ (by simp) (fun _ => ei)).trans (h.A (by omega)), (e _ (by simp) (fun _ => ei)).trans (h.D (by omega))⟩
  · exact ⟨(e _ (by simp) (fun _ => by show i ≠ ap; omega)).trans (h.a.2.2.2 i (by omega)).1, (e _ (by simp) (fun _ => by show i ≠ ap; omega)).trans (h.a.2.2.2 i (by omega)).2⟩
theorem BN.nhold {G : mp_G} {X : mp_X} {M : mp_M} {M1 : mp_M} {bq : Nat} {l0 : Nat} {l1 : Nat} {l2 : Nat} {l3 : Nat} {tp : Nat} {tz : Nat} {td : Int32} {fl : Int32} {tt : Nat → Int32} {pl : Nat} {ra : Nat → Nat} {Rg : Nat → rg_R} {pn : Nat} {pa : Nat → Nat} {pf : Nat → Int32} {pk : Nat → Int32} {zc : Nat → Nat} {zz : Nat → Nat → zr} {ap : Nat} {aa : Nat → Nat} {dq : Nat → Nat} {av : Nat → Nat → Int32} {dv : Nat → ds_D} {nh : Nat} {ah : Nat → Nat} {vh : Nat → Nat → Int32} (h : BN G X M bq l0 l1 l2 l3 tp tz td fl tt pl ra Rg pn pa pf pk zc zz ap aa dq av dv nh ah vh) {qa : Nat} {v : Nat → Int32} (hnh : nh < 100) (hv : 0 ≤ v 2) (hL : Lst G X M1 (23, 0, 0) (24, 0, 0) l3 (nh + 1) (elU ah nh qa)) (h1 : M1 (3, nh, 0) = some (qa, .inr (3, hl_fs v))) (e : ∀ j : mp_N, j.1 ∉ [23, 24] → (j.1 ∈ [3] → j.2.1 ≠ nh) → M1 j = M j) : BN G X M1 bq l0 l1 l2 l3 tp tz td fl tt pl ra Rg pn pa pf pk zc zz ap aa dq av dv (nh + 1) (elU ah nh qa) (va_up vh nh v) := by
  have e2 : ∀ j : mp_N, j.1 ∉ [3, 23, 24] → M1 j = M j := fun j hj => e j (by simp at hj ⊢; omega) (fun z => by simp at hj z; omega)
  refine ⟨(e2 _ (by simp)).trans h.O, (e2 _ (by simp)).trans h.T, h.tz9, (e2 _ (by simp)).trans h.n14, (e2 _ (by simp)).trans h.n16, h.r.congr (fun j hj => e2 j (by simp at hj ⊢; omega)), h.p.congr (fun j hj => e2 j (by simp at hj ⊢; omega)), h.a.congr (fun j hj => e2 j (by simp at hj ⊢; omega)), ?_⟩
  refine ⟨hL, by omega, fun i hi => ?_, fun i hi => ?_⟩
  · by_cases ei : i = nh
    · rw [ei, elU_s, va_up_self]
      exact ⟨h1, hv⟩
    · rw [elU_n _ _ _ ei, va_up_ne _ _ ei]
      exact ⟨(e _ (by simp) (fun _ => ei)).trans (h.H (by omega)), h.H0 (by omega)⟩
  · exact (e _ (by simp) (fun _ => by show i ≠ nh; omega)).trans (h.h.2.2.2 i (by omega))
theorem BN.nplan {G : mp_G} {X : mp_X} {M : mp_M} {M1 : mp_M} {bq : Nat} {l0 : Nat} {l1 : Nat} {l2 : Nat} {l3 : Nat} {tp : Nat} {tz : Nat} {td : Int32} {fl : Int32} {tt : Nat → Int32} {pl : Nat} {ra : Nat → Nat} {Rg : Nat → rg_R} {pn : Nat} {pa : Nat → Nat} {pf : Nat → Int32} {pk : Nat → Int32} {zc : Nat → Nat} {zz : Nat → Nat → zr} {ap : Nat} {aa : Nat → Nat} {dq : Nat → Nat} {av : Nat → Nat → Int32} {dv : Nat → ds_D} {nh : Nat} {ah : Nat → Nat} {vh : Nat → Nat → Int32} (h : BN G X M bq l0 l1 l2 l3 tp tz td fl tt pl ra Rg pn pa pf pk zc zz ap aa dq av dv nh ah vh) {qp zcn : Nat} {w : Int32} {zs : Nat → zr} (hpn : pn < 20) (hw : md_in w 0 9999) (hO : M1 (8, 0, 0) = some (bq, .inr (8, [.ref l0, .ref l1, .ref l2, .ref l3, .ref tp, .ref (ra pl), .int (nI 0), .int td, .int (-1)]))) (hL : Lst G X M1 (19, 0, 0) (20, 0, 0) l1 (pn + 1) (elU pa pn qp)) (hP : PlN G X M1 pn qp w td zcn zs) (h14 : M1 (14, 0, 0) = none) (hz : ∀ z, zcn ≤ z → M1 (7, pn, z) = none) (e : ∀ j : mp_N, j.1 ∉ [8, 14, 19, 20] → (j.1 ∈ [7, 11, 12, 13] → j.2.1 ≠ pn) → M1 j = M j) : BN G X M1 bq l0 l1 l2 l3 tp 0 td (-1) tt pl ra Rg (pn + 1) (elU pa pn qp) (upd pf pn w) (upd pk pn td) (elU zc pn zcn) (va_up zz pn zs) ap aa dq av dv nh ah vh := by
  have e2 : ∀ j : mp_N, j.1 ∉ [7, 8, 11, 12, 13, 14, 19, 20] → M1 j = M j := fun j hj => e j (by simp at hj ⊢; omega) (fun z => by simp at hj z; omega)
  refine ⟨hO, (e2 _ (by simp)).trans h.T, by omega, h14, (e2 _ (by simp)).trans h.n16, h.r.congr (fun j hj => e2 j (by simp at hj ⊢; omega)), ?_, h.a.congr (fun j hj => e2 j (by simp at hj ⊢; omega)), h.h.congr (fun j hj => e2 j (by simp at hj ⊢; omega))⟩
  refine ⟨hL, by omega, fun i hi => ?_, fun k hk hk2 => ?_⟩
  · by_cases ei : i = pn
    · subst ei
      simp only [elU_s, va_up_self, pk_us]
      exact ⟨hP, hw⟩
    · simp only [elU_n _ _ _ ei, va_up_ne _ _ ei, pk_un ei]
      exact ⟨(h.P (by omega)).congr (fun j hj hj2 => e j (by simp at hj ⊢; omega) (fun _ => by rw [hj2]; exact ei)), h.pf0 (by omega)⟩
  · exact (e k (by simp at hk ⊢; omega) (fun _ => by omega)).trans (h.p.2.2.2 k hk (by omega))
abbrev rmX7_corner : Room := { frames := 2, cells := 0, slots := 0, locals := 42 }
set_option maxHeartbeats 4000000 in
set_option maxRecDepth 100000 in
theorem c_X7_corner (l : Launch) (X : mp_X) (G : mp_G) (A : Nat → Prop) (M : mp_M) (bq : Nat) (l0 : Nat) (l1 : Nat) (l2 : Nat) (l3 : Nat) (tp : Nat) (tz : Nat) (td : Int32) (fl : Int32) (tt : Nat → Int32) (pl : Nat) (ra : Nat → Nat) (Rg : Nat → rg_R) (pn : Nat) (pa : Nat → Nat) (pf : Nat → Int32) (pk : Nat → Int32) (zc : Nat → Nat) (zz : Nat → Nat → zr) (ap : Nat) (aa : Nat → Nat) (dq : Nat → Nat) (av : Nat → Nat → Int32) (dv : Nat → ds_D) (nh : Nat) (ah : Nat → Nat) (vh : Nat → Nat → Int32) (hB : BN G X M bq l0 l1 l2 l3 tp tz td fl tt pl ra Rg pn pa pf pk zc zz ap aa dq av dv nh ah vh) (x y : Int32) : mp_Met l X G A yX7_corner wsX7_corner rmX7_corner ([.ref bq, .int x, .int y] : List Value) M (fun r M1 => ((md_in x 0 63 ∧ md_in y 0 63 ∧ (Rg pl).2.2 < 8) ∧ r = some (.int (nI ((Rg pl).2.2 + 1))) ∧ BN G X M1 bq l0 l1 l2 l3 tp tz td fl tt pl ra (va_up Rg pl (upd (Rg pl).1 (Rg pl).2.2 x, upd (Rg pl).2.1 (Rg pl).2.2 y, (Rg pl).2.2 + 1)) pn pa pf pk zc zz ap aa dq av dv nh ah vh ∧ (∀ k : mp_N, k.1 = 9 → M1 k = M k)) ∨ (¬ (md_in x 0 63 ∧ md_in y 0 63 ∧ (Rg pl).2.2 < 8) ∧ r = some (.int (-1)) ∧ M1 = M)) 0 0 := by
  refine mp_ofW (cc := cX7_corner) (maxL := 3) (ret := (some .int)) (by decide) rfl (Nat.le_of_ble_eq_true rfl) ?_
  intro p e s m below meth c ls hx hb hr hts hown hlocks hnm hml hC hM hS hl
  have hl : lv_has ls 3 [(0, .ref bq), (1, .int x), (2, .int y)] := hl
  have hown : s.vm.findClass RX7 = some m.cls := hown
  have hin_wsX70 : ∀ w ∈ wsX70, w ∈ wsX7_corner := fun _ h => List.mem_cons_of_mem _ (List.mem_append_left _ (List.mem_append_right _ h))
  have fl_32 := hts (.fieldLink RX7 32 "PlanningBench" "draft" "LPlanningBench$Ring;") (List.mem_of_getElem? (i := 1) rfl)
  have hin_wsX50 : ∀ w ∈ wsX50, w ∈ wsX7_corner := fun _ h => List.mem_cons_of_mem _ (List.mem_append_right _ h)
  have nf_54 := hC.2.1 (.fieldLinkNest RX7 54 "PlanningBench$Ring" "size" "I" "PlanningBench") (List.mem_of_getElem? (i := 3) rfl)
  have hb9 := hB.b
  obtain ⟨axd, ayd, hRd, hXd, hYd, hsd⟩ := hB.R (Nat.le_refl pl)
  refine lv_iload_n hx hb dX7_corner_0 rfl (lv_at hl 1 rfl) ?_
  refine mp_calli (va_runS (As := [.int x]) (rest := []) ⟨hx, hb, hml, hown, hts⟩ (c_X7_isPlace l X G A (M) x) (va_cwS 1 hts gX7_corner_X7_isPlace rfl rfl rfl (by decide +kernel) ⟨Nat.le_of_ble_eq_true rfl, Nat.le_of_ble_eq_true rfl⟩) (mp_preS hC hS hM) rfl rfl hl.1 rfl (lv_room (Nat.le_of_ble_eq_true rfl)) dX7_corner_1 ⟨Nat.le_of_ble_eq_true rfl, Nat.le_of_ble_eq_true rfl⟩) hS (fun H locs hM hS => ?_)
  refine lv_if_eq (tgt := 26) hx hb dX7_corner_4 (by decide) (fun c1 => ?_) (fun c1 => ?_)
  · have c1 : (pB (md_in x 0 63)) = false := bI_0.mp c1
    refine lv_iconst (v := (-1 : Int32)) hx hb dX7_corner_26 (by decide) ?_
    exact mp_iret hx hb hr hlocks (Nat.le_of_ble_eq_true rfl) (Nat.le_of_ble_eq_true rfl) hM hS dX7_corner_27 (Or.inr ⟨fun z => pB_not.mp c1 z.1, rfl, rfl⟩)
  · have c1 : (pB (md_in x 0 63)) = true := bI_1.mp c1
    refine lv_iload_n hx hb dX7_corner_7 rfl (lv_at hl 2 rfl) ?_
    refine mp_calli (va_runS (As := [.int y]) (rest := []) ⟨hx, hb, hml, hown, hts⟩ (c_X7_isPlace l X G A (M) y) (va_cwS 1 hts gX7_corner_X7_isPlace rfl rfl rfl (by decide +kernel) ⟨Nat.le_of_ble_eq_true rfl, Nat.le_of_ble_eq_true rfl⟩) (mp_preS hC hS hM) rfl rfl hl.1 rfl (lv_room (Nat.le_of_ble_eq_true rfl)) dX7_corner_8 ⟨Nat.le_of_ble_eq_true rfl, Nat.le_of_ble_eq_true rfl⟩) hS (fun H locs hM hS => ?_)
    refine lv_if_eq (tgt := 26) hx hb dX7_corner_11 (by decide) (fun c3 => ?_) (fun c3 => ?_)
    · have c3 : (pB (md_in y 0 63)) = false := bI_0.mp c3
      refine lv_iconst (v := (-1 : Int32)) hx hb dX7_corner_26 (by decide) ?_
      exact mp_iret hx hb hr hlocks (Nat.le_of_ble_eq_true rfl) (Nat.le_of_ble_eq_true rfl) hM hS dX7_corner_27 (Or.inr ⟨fun z => pB_not.mp c3 z.2.1, rfl, rfl⟩)
    · have c3 : (pB (md_in y 0 63)) = true := bI_1.mp c3
      refine lv_aload_n hx hb dX7_corner_14 rfl (lv_at hl 0 rfl) ?_
      refine va_get (D := G.1) (C := RX7) (T := TX7) (N := 9) (ci := 8) hx hb hts hin_wsX70 hown hC.1 (hM.one hB.O) 0 rfl rfl 5 (by decide) fl_32 (fun _ z => z) rfl dX7_corner_15 ?_
      refine lv_iload_n hx hb dX7_corner_18 rfl (lv_at hl 1 rfl) ?_
      refine lv_iload_n hx hb dX7_corner_19 rfl (lv_at hl 2 rfl) ?_
      by_cases hs8 : (Rg pl).2.2 < 8
      · skip
        refine mp_calli (va_runV (As := [.int x, .int y]) (rest := []) ⟨hx, hb, hml, hown, hts⟩ (c_addY l X G A M pl (ra pl) axd ayd (Rg pl) hRd hXd hYd hsd x y hs8) (cwV 2 hts gX7_corner_X5_addCorner rfl rfl rfl (by decide +kernel) ⟨Nat.le_of_ble_eq_true rfl, Nat.le_of_ble_eq_true rfl⟩) (mp_preV hC hS hM (mp_recv hC.1 hM hRd (r := (RX5, TX5, 3)) rfl)) rfl rfl hl.1 rfl (lv_room (Nat.le_of_ble_eq_true rfl)) dX7_corner_20 ⟨Nat.le_of_ble_eq_true rfl, Nat.le_of_ble_eq_true rfl⟩) hS (fun H locs hM hS => ?_)
        refine lv_if_ne (tgt := 28) hx hb dX7_corner_23 (by decide) (fun c_1 => ?_) (fun c_1 => ?_)
        · have c_1 := c_1
          refine lv_aload_n hx hb dX7_corner_28 rfl (lv_at hl 0 rfl) ?_
          refine va_get (D := G.1) (C := RX7) (T := TX7) (N := 9) (ci := 8) hx hb hts hin_wsX70 hown hC.1 (hM.one ((mp_set_n _ _ _ (by simp)).trans ((mp_set_n _ _ _ (by simp)).trans ((mp_set_n _ _ _ (by simp)).trans hB.O)))) 0 rfl rfl 5 (by decide) fl_32 (fun _ z => z) rfl dX7_corner_29 ?_
          refine va_getN (D := G.1) (C := RX5) (T := TX5) (N := 3) (ci := 6) hx hb hts hin_wsX50 hown hC.1 (hM.one (mp_set_s _ _ _)) 0 rfl rfl 2 (by decide) (va_Nw.use rfl nf_54) (fun _ z => z) rfl dX7_corner_32 ?_
          exact mp_iret hx hb hr hlocks (Nat.le_of_ble_eq_true rfl) (Nat.le_of_ble_eq_true rfl) hM hS dX7_corner_35 (Or.inl ⟨⟨pB_iff.mp c1, pB_iff.mp c3, hs8⟩, rfl, hB.draft (upd (Rg pl).1 (Rg pl).2.2 x, upd (Rg pl).2.1 (Rg pl).2.2 y, (Rg pl).2.2 + 1) ⟨axd, ayd, mp_set_s _ _ _, by simp [mp_set], by simp [mp_set], by show (Rg pl).2.2 + 1 ≤ 8; omega⟩ (fun j hj => by rw [mp_set_n _ _ _ (fun z => hj (by rw [z]; simp) (by rw [z])), mp_set_n _ _ _ (fun z => hj (by rw [z]; simp) (by rw [z])), mp_set_n _ _ _ (fun z => hj (by rw [z]; simp) (by rw [z]))]), fun k hk => by rw [fr9 (by simp) k hk, fr9 (by simp) k hk, fr9 (by simp) k hk]⟩)
        · have c_1 := c_1
          exact absurd c_1 (by decide)
      · skip
        refine mp_calli (va_runV (As := [.int x, .int y]) (rest := []) ⟨hx, hb, hml, hown, hts⟩ (c_addN l X G A M pl (ra pl) axd ayd (Rg pl) hRd hXd hYd hsd x y hs8) (cwV 2 hts gX7_corner_X5_addCorner rfl rfl rfl (by decide +kernel) ⟨Nat.le_of_ble_eq_true rfl, Nat.le_of_ble_eq_true rfl⟩) (mp_preV hC hS hM (mp_recv hC.1 hM hRd (r := (RX5, TX5, 3)) rfl)) rfl rfl hl.1 rfl (lv_room (Nat.le_of_ble_eq_true rfl)) dX7_corner_20 ⟨Nat.le_of_ble_eq_true rfl, Nat.le_of_ble_eq_true rfl⟩) hS (fun H locs hM hS => ?_)
        refine lv_if_ne (tgt := 28) hx hb dX7_corner_23 (by decide) (fun c_2 => ?_) (fun c_2 => ?_)
        · have c_2 := c_2
          exact absurd c_2 (by decide)
        · have c_2 := c_2
          refine lv_iconst (v := (-1 : Int32)) hx hb dX7_corner_26 (by decide) ?_
          exact mp_iret hx hb hr hlocks (Nat.le_of_ble_eq_true rfl) (Nat.le_of_ble_eq_true rfl) hM hS dX7_corner_27 (Or.inr ⟨fun z => hs8 z.2.2, rfl, rfl⟩)
abbrev rmX7_plot : Room := { frames := 7, cells := 4, slots := 169, locals := 171 }
set_option maxHeartbeats 4000000 in
set_option maxRecDepth 100000 in
theorem c_X7_plot (l : Launch) (X : mp_X) (G : mp_G) (A : Nat → Prop) (M : mp_M) (bq : Nat) (l0 : Nat) (l1 : Nat) (l2 : Nat) (l3 : Nat) (tp : Nat) (tz : Nat) (td : Int32) (fl : Int32) (tt : Nat → Int32) (pl : Nat) (ra : Nat → Nat) (Rg : Nat → rg_R) (pn : Nat) (pa : Nat → Nat) (pf : Nat → Int32) (pk : Nat → Int32) (zc : Nat → Nat) (zz : Nat → Nat → zr) (ap : Nat) (aa : Nat → Nat) (dq : Nat → Nat) (av : Nat → Nat → Int32) (dv : Nat → ds_D) (nh : Nat) (ah : Nat → Nat) (vh : Nat → Nat → Int32) (hB : BN G X M bq l0 l1 l2 l3 tp tz td fl tt pl ra Rg pn pa pf pk zc zz ap aa dq av dv nh ah vh) : mp_Met l X G A yX7_plot wsX7_plot rmX7_plot ([.ref bq] : List Value) M (fun r M1 => ((pl < 12 ∧ rg_ok (Rg pl) ∧ ¬ cs_ov pl Rg) ∧ r = some (.int (nI pl)) ∧ (∃ ra2, BN G X M1 bq l0 l1 l2 l3 tp tz td fl tt (pl + 1) ra2 (va_up Rg (pl + 1) (fun _ => 0, fun _ => 0, 0)) pn pa pf pk zc zz ap aa dq av dv nh ah vh) ∧ (∀ k : mp_N, k.1 = 9 → M1 k = M k)) ∨ (¬ (pl < 12 ∧ rg_ok (Rg pl) ∧ ¬ cs_ov pl Rg) ∧ r = some (.int (-1)) ∧ BN G X M1 bq l0 l1 l2 l3 tp tz td fl tt pl ra (va_up Rg pl ((Rg pl).1, (Rg pl).2.1, 0)) pn pa pf pk zc zz ap aa dq av dv nh ah vh ∧ (∀ k : mp_N, k.1 = 9 → M1 k = M k))) 4 169 := by
  refine mp_ofW (cc := cX7_plot) (maxL := 1) (ret := (some .int)) (by decide) rfl (Nat.le_of_ble_eq_true rfl) ?_
  intro p e s m below meth c ls hx hb hr hts hown hlocks hnm hml hC hM hS hl
  have hl : lv_has ls 1 [(0, .ref bq)] := hl
  have hown : s.vm.findClass RX7 = some m.cls := hown
  have hin_wsX70 : ∀ w ∈ wsX70, w ∈ wsX7_plot := fun _ h => List.mem_cons_of_mem _ (List.mem_append_left _ (List.mem_append_left _ (List.mem_append_right _ h)))
  have fl_10 := hts (.fieldLink RX7 10 "PlanningBench" "plots" "Ljava/util/ArrayList;") (List.mem_of_getElem? (i := 1) rfl)
  have fl_32 := hts (.fieldLink RX7 32 "PlanningBench" "draft" "LPlanningBench$Ring;") (List.mem_of_getElem? (i := 2) rfl)
  have cl_29 := hts (.classLink RX7 29 RX5) (List.mem_of_getElem? (i := 3) rfl)
  have in_X5 := hts (.instantiable RX5 3) (List.mem_of_getElem? (i := 4) rfl)
  have mi_RX5 := hts (.initialized RX5) (List.mem_of_getElem? (i := 5) rfl)
  have hin_wsX50 : ∀ w ∈ wsX50, w ∈ wsX7_plot := fun _ h => List.mem_cons_of_mem _ (List.mem_append_left _ (List.mem_append_right _ h))
  have mn_X5_init := hts (.instanceMethod yX5_init) (List.mem_of_getElem? (i := 123) rfl)
  have nw_31 := hC.2.1 (.methodLinkNest RX7 31 yX5_init "PlanningBench") (List.mem_of_getElem? (i := 0) rfl)
  have hb9 := hB.b
  obtain ⟨axd, ayd, hRd, hXd, hYd, hsd⟩ := hB.R (Nat.le_refl pl)
  refine lv_aload_n hx hb dX7_plot_0 rfl (lv_at hl 0 rfl) ?_
  refine va_get (D := G.1) (C := RX7) (T := TX7) (N := 9) (ci := 8) hx hb hts hin_wsX70 hown hC.1 (hM.one hB.O) 0 rfl rfl 0 (by decide) fl_10 (fun _ z => z) rfl dX7_plot_1 ?_
  refine mp_calli (va_runV (As := []) (rest := []) ⟨hx, hb, hml, hown, hts⟩ (c_size l X G A (M) hB.L0) (cwV 0 hts gX7_plot_Jx4a65c_size_8abf5 rfl rfl rfl (by decide +kernel) ⟨Nat.le_of_ble_eq_true rfl, Nat.le_of_ble_eq_true rfl⟩) (mp_preV hC hS hM (mp_recvL hC.1 hM hB.L0)) rfl rfl hl.1 rfl (lv_room (Nat.le_of_ble_eq_true rfl)) dX7_plot_4 ⟨Nat.le_of_ble_eq_true rfl, Nat.le_of_ble_eq_true rfl⟩) hS (fun H locs hM hS => ?_)
  refine lv_bipush (v := (12 : Int32)) hx hb dX7_plot_7 (by decide) ?_
  refine lv_icmp_ge (tgt := 33) hx hb dX7_plot_9 (by decide) (fun c1 => ?_) (fun c1 => ?_)
  · have c1 := nn_le (a := 12) (b := pl) (by omega) (by omega) c1
    refine lv_aload_n hx hb dX7_plot_33 rfl (lv_at hl 0 rfl) ?_
    refine va_get (D := G.1) (C := RX7) (T := TX7) (N := 9) (ci := 8) hx hb hts hin_wsX70 hown hC.1 (hM.one hB.O) 0 rfl rfl 5 (by decide) fl_32 (fun _ z => z) rfl dX7_plot_34 ?_
    refine mp_callv (va_runV (As := []) (rest := []) ⟨hx, hb, hml, hown, hts⟩ (c_X5_empty l X G A M pl (ra pl) axd ayd (Rg pl) hRd hXd hYd hsd) (cwV 0 hts gX7_plot_X5_empty rfl rfl rfl (by decide +kernel) ⟨Nat.le_of_ble_eq_true rfl, Nat.le_of_ble_eq_true rfl⟩) (mp_preV hC hS hM (mp_recv hC.1 hM hRd (r := (RX5, TX5, 3)) rfl)) rfl rfl hl.1 rfl (lv_room (Nat.le_of_ble_eq_true rfl)) dX7_plot_37 ⟨Nat.le_of_ble_eq_true rfl, Nat.le_of_ble_eq_true rfl⟩) hS (fun H locs hM hS => ?_)
    refine lv_iconst (v := (-1 : Int32)) hx hb dX7_plot_40 (by decide) ?_
    exact mp_iret hx hb hr hlocks (Nat.le_of_ble_eq_true rfl) (Nat.le_of_ble_eq_true rfl) hM hS dX7_plot_41 (Or.inr ⟨fun z => absurd z.1 (by omega), rfl, hB.draft ((Rg pl).1, (Rg pl).2.1, 0) ⟨axd, ayd, mp_set_s _ _ _, (mp_set_n _ _ _ (by simp)).trans hXd, (mp_set_n _ _ _ (by simp)).trans hYd, by simp⟩ (fun j hj => mp_set_n _ _ _ (fun z => hj (by rw [z]; simp) (by rw [z]))), fr9 (by simp)⟩)
  · have c1 := nn_nle (a := 12) (b := pl) (by omega) (by omega) c1
    refine lv_aload_n hx hb dX7_plot_12 rfl (lv_at hl 0 rfl) ?_
    refine va_get (D := G.1) (C := RX7) (T := TX7) (N := 9) (ci := 8) hx hb hts hin_wsX70 hown hC.1 (hM.one hB.O) 0 rfl rfl 5 (by decide) fl_32 (fun _ z => z) rfl dX7_plot_13 ?_
    refine mp_calli (va_runV (As := []) (rest := []) ⟨hx, hb, hml, hown, hts⟩ (c_X5_goesRoundLeft l X G A (M) (ra pl) (Rg pl) (hB.Rt (Nat.le_refl pl)) (hB.Rs (Nat.le_refl pl))) (cwV 0 hts gX7_plot_X5_goesRoundLeft rfl rfl rfl (by decide +kernel) ⟨Nat.le_of_ble_eq_true rfl, Nat.le_of_ble_eq_true rfl⟩) (mp_preV hC hS hM (mp_recv hC.1 hM hRd (r := (RX5, TX5, 3)) rfl)) rfl rfl hl.1 rfl (lv_room (Nat.le_of_ble_eq_true rfl)) dX7_plot_16 ⟨Nat.le_of_ble_eq_true rfl, Nat.le_of_ble_eq_true rfl⟩) hS (fun H locs hM hS => ?_)
    refine lv_if_eq (tgt := 33) hx hb dX7_plot_19 (by decide) (fun c3 => ?_) (fun c3 => ?_)
    · have c3 : (pB (rg_ok (Rg pl))) = false := bI_0.mp c3
      refine lv_aload_n hx hb dX7_plot_33 rfl (lv_at hl 0 rfl) ?_
      refine va_get (D := G.1) (C := RX7) (T := TX7) (N := 9) (ci := 8) hx hb hts hin_wsX70 hown hC.1 (hM.one hB.O) 0 rfl rfl 5 (by decide) fl_32 (fun _ z => z) rfl dX7_plot_34 ?_
      refine mp_callv (va_runV (As := []) (rest := []) ⟨hx, hb, hml, hown, hts⟩ (c_X5_empty l X G A M pl (ra pl) axd ayd (Rg pl) hRd hXd hYd hsd) (cwV 0 hts gX7_plot_X5_empty rfl rfl rfl (by decide +kernel) ⟨Nat.le_of_ble_eq_true rfl, Nat.le_of_ble_eq_true rfl⟩) (mp_preV hC hS hM (mp_recv hC.1 hM hRd (r := (RX5, TX5, 3)) rfl)) rfl rfl hl.1 rfl (lv_room (Nat.le_of_ble_eq_true rfl)) dX7_plot_37 ⟨Nat.le_of_ble_eq_true rfl, Nat.le_of_ble_eq_true rfl⟩) hS (fun H locs hM hS => ?_)
      refine lv_iconst (v := (-1 : Int32)) hx hb dX7_plot_40 (by decide) ?_
      exact mp_iret hx hb hr hlocks (Nat.le_of_ble_eq_true rfl) (Nat.le_of_ble_eq_true rfl) hM hS dX7_plot_41 (Or.inr ⟨fun z => pB_not.mp c3 z.2.1, rfl, hB.draft ((Rg pl).1, (Rg pl).2.1, 0) ⟨axd, ayd, mp_set_s _ _ _, (mp_set_n _ _ _ (by simp)).trans hXd, (mp_set_n _ _ _ (by simp)).trans hYd, by simp⟩ (fun j hj => mp_set_n _ _ _ (fun z => hj (by rw [z]; simp) (by rw [z]))), fr9 (by simp)⟩)
    · have c3 : (pB (rg_ok (Rg pl))) = true := bI_1.mp c3
      refine lv_aload_n hx hb dX7_plot_22 rfl (lv_at hl 0 rfl) ?_
      refine lv_aload_n hx hb dX7_plot_23 rfl (lv_at hl 0 rfl) ?_
      refine va_get (D := G.1) (C := RX7) (T := TX7) (N := 9) (ci := 8) hx hb hts hin_wsX70 hown hC.1 (hM.one hB.O) 0 rfl rfl 5 (by decide) fl_32 (fun _ z => z) rfl dX7_plot_24 ?_
      refine mp_calli (va_runV (As := [.ref (ra pl)]) (rest := []) ⟨hx, hb, hml, hown, hts⟩ (c_X7_overlapsPlot l X G A (M) bq l0 l1 l2 l3 tp tz td fl tt pl ra Rg pn pa pf pk zc zz ap aa dq av dv nh ah vh hB) (cwV 1 hts gX7_plot_X7_overlapsPlot rfl rfl rfl (by decide +kernel) ⟨Nat.le_of_ble_eq_true rfl, Nat.le_of_ble_eq_true rfl⟩) (mp_preV hC hS hM (mp_recv hC.1 hM hB.O (r := (RX7, TX7, 9)) rfl)) rfl rfl hl.1 rfl (lv_room (Nat.le_of_ble_eq_true rfl)) dX7_plot_27 ⟨Nat.le_of_ble_eq_true rfl, Nat.le_of_ble_eq_true rfl⟩) hS (fun H locs hM hS => ?_)
      refine lv_if_eq (tgt := 42) hx hb dX7_plot_30 (by decide) (fun c4 => ?_) (fun c4 => ?_)
      · have c4 : (pB (cs_ov pl Rg)) = false := bI_0.mp c4
        refine lv_aload_n hx hb dX7_plot_42 rfl (lv_at hl 0 rfl) ?_
        refine va_get (D := G.1) (C := RX7) (T := TX7) (N := 9) (ci := 8) hx hb hts hin_wsX70 hown hC.1 (hM.one hB.O) 0 rfl rfl 0 (by decide) fl_10 (fun _ z => z) rfl dX7_plot_43 ?_
        refine lv_aload_n hx hb dX7_plot_46 rfl (lv_at hl 0 rfl) ?_
        refine va_get (D := G.1) (C := RX7) (T := TX7) (N := 9) (ci := 8) hx hb hts hin_wsX70 hown hC.1 (hM.one hB.O) 0 rfl rfl 5 (by decide) fl_32 (fun _ z => z) rfl dX7_plot_47 ?_
        refine mp_call (va_runV (As := [.ref (ra pl)]) (rest := []) ⟨hx, hb, hml, hown, hts⟩ (c_add l X G A M hB.L0 (16, 0, 0) hB.n16 (by simp) (by omega) 6 (RX5, TX5, 3) rfl (List.mem_of_getElem? (i := 32) rfl) (fun i hi => ⟨(4, i, 0), hB.Rc (by omega)⟩) (4, pl, 0) (ra pl) _ hRd (by decide)) (cwV 1 hts gX7_plot_Jx4a65c_add_9ea2d rfl rfl rfl (by decide +kernel) ⟨Nat.le_of_ble_eq_true rfl, Nat.le_of_ble_eq_true rfl⟩) (mp_preV hC hS hM (mp_recvL hC.1 hM hB.L0)) rfl rfl hl.1 rfl (lv_room (Nat.le_of_ble_eq_true rfl)) dX7_plot_50 ⟨Nat.le_of_ble_eq_true rfl, Nat.le_of_ble_eq_true rfl⟩) hS (fun v M2 H locs hp hM hS => ?_)
        obtain ⟨rfl, x9, y9, hM2, hL2⟩ := hp
        have hF2 : ∀ k : mp_N, k.1 ≠ 17 → k.1 ≠ 18 → M2 k = M k := fun k z1 z2 => by rw [hM2, mp_set_n _ _ _ (fun z => z1 (by rw [z])), mp_set_n _ _ _ (fun z => z2 (by rw [z]))]
        refine lv_pop hx hb dX7_plot_53 rfl ?_
        refine lv_aload_n hx hb dX7_plot_54 rfl (lv_at hl 0 rfl) ?_
        refine mp_new (kn := (4, pl + 1, 0)) (C := RX5) (T := TX5) (N := 3) (ci := 6) (fs := [.null, .null, .int (0 : Int32)]) hx hb hts hin_wsX50 tyX5 tyX5_ok hown cl_29 in_X5 mi_RX5 hC.1 hM hS hC.2.2.2 rfl (fun j hj => by rcases (show j = 0 ∨ j = 1 ∨ j = 2 by omega) with rfl | rfl | rfl <;> rfl) (Nat.le_of_ble_eq_true rfl) (Nat.le_of_ble_eq_true rfl) dX7_plot_55 ((hF2 (4, pl + 1, 0) (by simp) (by simp)).trans (hB.r.2.2.2 (pl + 1) (by omega)).1) (fun qn_1 H hM hS => ?_)
        have hM : mp_P G.1 A (mp_set M2 (4, pl + 1, 0) (qn_1, .inr (6, [.null, .null, .int (0 : Int32)]))) H := hM
        refine lv_dup hx hb dX7_plot_58 rfl ?_
        refine mp_call (va_runIN (As := []) (rest := [.ref qn_1, .ref bq]) ⟨hx, hb, hml, hown, hts⟩ (c_X5_init l X G A (mp_set M2 (4, pl + 1, 0) (qn_1, .inr (6, [.null, .null, .int (0 : Int32)]))) qn_1 (pl + 1) (mp_set_s _ _ _) ((mp_set_n _ _ _ (by simp)).trans ((hF2 (5, pl + 1, 0) (by simp) (by simp)).trans (hB.r.2.2.2 (pl + 1) (by omega)).2.1)) ((mp_set_n _ _ _ (by simp)).trans ((hF2 (6, pl + 1, 0) (by simp) (by simp)).trans (hB.r.2.2.2 (pl + 1) (by omega)).2.2))) ⟨va_cnB 0 hts gX7_plot_X5_init_n31 rfl rfl rfl nw_31 mi_RX5 (by decide +kernel) ⟨Nat.le_of_ble_eq_true rfl, Nat.le_of_ble_eq_true rfl⟩, rfl, mn_X5_init⟩ (mp_preS hC hS hM) rfl rfl hl.1 rfl (lv_room (Nat.le_of_ble_eq_true rfl)) dX7_plot_59 ⟨Nat.le_of_ble_eq_true rfl, Nat.le_of_ble_eq_true rfl⟩) hS (fun v M3 H locs hp hM hS => ?_)
        obtain ⟨rfl, ax9, ay9, hM3⟩ := hp
        have hF3 : ∀ k : mp_N, (k.1 ∈ [4, 5, 6] → k.2.1 ≠ pl + 1) → M3 k = M2 k := fun k z1 => by rw [hM3, mp_set_n _ _ _ (fun z => z1 (by rw [z]; simp) (by rw [z])), mp_set_n _ _ _ (fun z => z1 (by rw [z]; simp) (by rw [z])), mp_set_n _ _ _ (fun z => z1 (by rw [z]; simp) (by rw [z])), mp_set_n _ _ _ (fun z => z1 (by rw [z]; simp) (by rw [z]))]
        have hR3 : RgN G M3 (pl + 1) qn_1 (fun _ => 0, fun _ => 0, 0) := ⟨ax9, ay9, by rw [hM3]; simp [mp_set]; rfl, by rw [hM3]; simp [mp_set], by rw [hM3]; simp [mp_set], by simp⟩
        have hO3 := (hF3 (8, 0, 0) (by simp)).trans ((hF2 (8, 0, 0) (by simp) (by simp)).trans hB.O)
        have hL3 := hL2.congr (hF3 (17, 0, 0) (by simp)) (hF3 (18, 0, 0) (by simp))
        refine mp_put (D := G.1) (C := RX7) (T := TX7) (N := 9) (ci := 8) hx hb hts hin_wsX70 tyX7 tyX7_ok nmX7 hown hC.1 hM hS hO3 rfl 5 (by decide) fl_32 (fun _ z => z) rfl rfl rfl (Nat.le_of_ble_eq_true rfl) dX7_plot_62 (fs' := [.ref l0, .ref l1, .ref l2, .ref l3, .ref tp, .ref qn_1, .int (nI tz), .int td, .int fl]) rfl (fun H locs hM hS => ?_)
        have hM : mp_P G.1 A (mp_set M3 (8, 0, 0) (bq, .inr (8, [.ref l0, .ref l1, .ref l2, .ref l3, .ref tp, .ref qn_1, .int (nI tz), .int td, .int fl]))) H := hM
        refine lv_aload_n hx hb dX7_plot_65 rfl (lv_at hl 0 rfl) ?_
        refine va_get (D := G.1) (C := RX7) (T := TX7) (N := 9) (ci := 8) hx hb hts hin_wsX70 hown hC.1 (hM.one (mp_set_s _ _ _)) 0 rfl rfl 0 (by decide) fl_10 (fun _ z => z) rfl dX7_plot_66 ?_
        refine mp_calli (va_runV (As := []) (rest := []) ⟨hx, hb, hml, hown, hts⟩ (c_size l X G A (mp_set M3 (8, 0, 0) (bq, .inr (8, [.ref l0, .ref l1, .ref l2, .ref l3, .ref tp, .ref qn_1, .int (nI tz), .int td, .int fl]))) (hL3.congr (mp_set_n _ _ _ (by simp)) (mp_set_n _ _ _ (by simp)))) (cwV 0 hts gX7_plot_Jx4a65c_size_8abf5 rfl rfl rfl (by decide +kernel) ⟨Nat.le_of_ble_eq_true rfl, Nat.le_of_ble_eq_true rfl⟩) (mp_preV hC hS hM (mp_recvL hC.1 hM (hL3.congr (mp_set_n _ _ _ (by simp)) (mp_set_n _ _ _ (by simp))))) rfl rfl hl.1 rfl (lv_room (Nat.le_of_ble_eq_true rfl)) dX7_plot_69 ⟨Nat.le_of_ble_eq_true rfl, Nat.le_of_ble_eq_true rfl⟩) hS (fun H locs hM hS => ?_)
        refine lv_iconst (v := (1 : Int32)) hx hb dX7_plot_72 (by decide) ?_
        refine lv_isub hx hb dX7_plot_73 ?_
        refine mp_top (nI ((pl + 1) - 1)) (pk_sub (a := pl + 1) (b := 1) (by omega)) ?_
        exact mp_iret hx hb hr hlocks (Nat.le_of_ble_eq_true rfl) (Nat.le_of_ble_eq_true rfl) hM hS dX7_plot_74 (Or.inl ⟨⟨c1, pB_iff.mp c3, pB_not.mp c4⟩, by rw [show pl + 1 - 1 = pl by omega], ⟨_, hB.nring c1 (mp_set_s _ _ _) (hL3.congr (mp_set_n _ _ _ (by simp)) (mp_set_n _ _ _ (by simp))) (hR3.congr6 (fun j hj _ => mp_set_n _ _ _ (fun z => by rw [z] at hj; simp at hj))) (fun j h1 h2 => by rw [mp_set_n _ _ _ (fun z => h1 (by rw [z]; simp)), hF3 j h2, hF2 j (fun z => h1 (by rw [z]; simp)) (fun z => h1 (by rw [z]; simp))])⟩, fun k hk => by rw [fr9 (by simp) k hk, hF3 k (fun z => by rw [hk] at z; simp at z), hF2 k (by rw [hk]; decide) (by rw [hk]; decide)]⟩)
      · have c4 : (pB (cs_ov pl Rg)) = true := bI_1.mp c4
        refine lv_aload_n hx hb dX7_plot_33 rfl (lv_at hl 0 rfl) ?_
        refine va_get (D := G.1) (C := RX7) (T := TX7) (N := 9) (ci := 8) hx hb hts hin_wsX70 hown hC.1 (hM.one hB.O) 0 rfl rfl 5 (by decide) fl_32 (fun _ z => z) rfl dX7_plot_34 ?_
        refine mp_callv (va_runV (As := []) (rest := []) ⟨hx, hb, hml, hown, hts⟩ (c_X5_empty l X G A M pl (ra pl) axd ayd (Rg pl) hRd hXd hYd hsd) (cwV 0 hts gX7_plot_X5_empty rfl rfl rfl (by decide +kernel) ⟨Nat.le_of_ble_eq_true rfl, Nat.le_of_ble_eq_true rfl⟩) (mp_preV hC hS hM (mp_recv hC.1 hM hRd (r := (RX5, TX5, 3)) rfl)) rfl rfl hl.1 rfl (lv_room (Nat.le_of_ble_eq_true rfl)) dX7_plot_37 ⟨Nat.le_of_ble_eq_true rfl, Nat.le_of_ble_eq_true rfl⟩) hS (fun H locs hM hS => ?_)
        refine lv_iconst (v := (-1 : Int32)) hx hb dX7_plot_40 (by decide) ?_
        exact mp_iret hx hb hr hlocks (Nat.le_of_ble_eq_true rfl) (Nat.le_of_ble_eq_true rfl) hM hS dX7_plot_41 (Or.inr ⟨fun z => z.2.2 (pB_iff.mp c4), rfl, hB.draft ((Rg pl).1, (Rg pl).2.1, 0) ⟨axd, ayd, mp_set_s _ _ _, (mp_set_n _ _ _ (by simp)).trans hXd, (mp_set_n _ _ _ (by simp)).trans hYd, by simp⟩ (fun j hj => mp_set_n _ _ _ (fun z => hj (by rw [z]; simp) (by rw [z]))), fr9 (by simp)⟩)
abbrev rmX7_putOnTape : Room := { frames := 0, cells := 0, slots := 0, locals := 0 }
set_option maxHeartbeats 4000000 in
set_option maxRecDepth 100000 in
theorem c_X7_putOnTape (l : Launch) (X : mp_X) (G : mp_G) (A : Nat → Prop) (M : mp_M) (bq : Nat) (l0 : Nat) (l1 : Nat) (l2 : Nat) (l3 : Nat) (tp : Nat) (tz : Nat) (td : Int32) (fl : Int32) (tt : Nat → Int32) (pl : Nat) (ra : Nat → Nat) (Rg : Nat → rg_R) (pn : Nat) (pa : Nat → Nat) (pf : Nat → Int32) (pk : Nat → Int32) (zc : Nat → Nat) (zz : Nat → Nat → zr) (ap : Nat) (aa : Nat → Nat) (dq : Nat → Nat) (av : Nat → Nat → Int32) (dv : Nat → ds_D) (nh : Nat) (ah : Nat → Nat) (vh : Nat → Nat → Int32) (hB : BN G X M bq l0 l1 l2 l3 tp tz td fl tt pl ra Rg pn pa pf pk zc zz ap aa dq av dv nh ah vh) (v : Int32) (htz : tz + 4 ≤ 600) : mp_Met l X G A yX7_putOnTape wsX7_putOnTape rmX7_putOnTape ([.ref bq, .int v] : List Value) M (fun r M1 => r = none ∧ BN G X M1 bq l0 l1 l2 l3 tp (tz + 4) td fl (md_fourG tt tz v) pl ra Rg pn pa pf pk zc zz ap aa dq av dv nh ah vh ∧ (∀ k : mp_N, k.1 = 9 → M1 k = M k)) 0 0 := by
  refine mp_ofW (cc := cX7_putOnTape) (maxL := 3) (ret := none) (by decide) rfl (Nat.le_of_ble_eq_true rfl) ?_
  intro p e s m below meth c ls hx hb hr hts hown hlocks hnm hml hC hM hS hl
  have hl : lv_has ls 3 [(0, .ref bq), (1, .int v)] := hl
  have hown : s.vm.findClass RX7 = some m.cls := hown
  have hin_wsX70 : ∀ w ∈ wsX70, w ∈ wsX7_putOnTape := fun _ h => List.mem_cons_of_mem _ (List.mem_append_right _ h)
  have fl_36 := hts (.fieldLink RX7 36 "PlanningBench" "taped" "I") (List.mem_of_getElem? (i := 1) rfl)
  have fl_25 := hts (.fieldLink RX7 25 "PlanningBench" "tape" "[B") (List.mem_of_getElem? (i := 2) rfl)
  have hb9 := hB.b
  refine lv_bipush (v := (24 : Int32)) hx hb dX7_putOnTape_0 (by decide) ?_
  refine lv_istore_n (lv' := [(2, .int (24 : Int32)), (0, .ref bq), (1, .int v)]) hx hb dX7_putOnTape_2 rfl hl (by decide) rfl (fun ls hl => ?_)
  refine lv_iload_n hx hb dX7_putOnTape_3 rfl (lv_at hl 0 rfl) ?_
  refine lv_if_lt (tgt := 46) hx hb dX7_putOnTape_4 (by decide) (fun c_1 => ?_) (fun c_1 => ?_)
  · have c_1 := c_1
    exact absurd c_1 (by decide)
  · have c_1 := c_1
    refine lv_aload_n hx hb dX7_putOnTape_7 rfl (lv_at hl 1 rfl) ?_
    refine va_get (D := G.1) (C := RX7) (T := TX7) (N := 9) (ci := 8) hx hb hts hin_wsX70 hown hC.1 (hM.one hB.O) 0 rfl rfl 6 (by decide) fl_36 (fun _ z => z) rfl dX7_putOnTape_8 ?_
    refine lv_sipush (v := (600 : Int32)) hx hb dX7_putOnTape_11 (by decide) ?_
    refine lv_icmp_ge (tgt := 46) hx hb dX7_putOnTape_14 (by decide) (fun c_2 => ?_) (fun c_2 => ?_)
    · have c_2 := nn_le (a := 600) (b := tz) (by omega) (by omega) c_2
      exact absurd c_2 (by omega)
    · have c_2 := nn_nle (a := 600) (b := tz) (by omega) (by omega) c_2
      refine lv_aload_n hx hb dX7_putOnTape_17 rfl (lv_at hl 1 rfl) ?_
      refine va_get (D := G.1) (C := RX7) (T := TX7) (N := 9) (ci := 8) hx hb hts hin_wsX70 hown hC.1 (hM.one hB.O) 0 rfl rfl 4 (by decide) fl_25 (fun _ z => z) rfl dX7_putOnTape_18 ?_
      refine lv_aload_n hx hb dX7_putOnTape_21 rfl (lv_at hl 1 rfl) ?_
      refine va_get (D := G.1) (C := RX7) (T := TX7) (N := 9) (ci := 8) hx hb hts hin_wsX70 hown hC.1 (hM.one hB.O) 0 rfl rfl 6 (by decide) fl_36 (fun _ z => z) rfl dX7_putOnTape_22 ?_
      refine lv_iload_n hx hb dX7_putOnTape_25 rfl (lv_at hl 2 rfl) ?_
      refine lv_iload_n hx hb dX7_putOnTape_26 rfl (lv_at hl 0 rfl) ?_
      refine lv_iushr hx hb dX7_putOnTape_27 rfl ?_
      refine lv_i2b hx hb dX7_putOnTape_28 rfl ?_
      refine mp_top (tp_b v (24 : Int32)) (tpb_24 v) ?_
      refine ca_bast hx hb hC hM hS hB.T (j := tz) (by omega) (by decide) (tpb_nar _ _) dX7_putOnTape_29 (fun H locs hM hS => ?_)
      have hM : mp_P G.1 A (mp_set M (15, 0, 0) (tp, .inl (G.2.1, 600, .inl (upd tt tz (tp_b v (24 : Int32)))))) H := hM
      refine lv_aload_n hx hb dX7_putOnTape_30 rfl (lv_at hl 1 rfl) ?_
      refine lv_dup hx hb dX7_putOnTape_31 rfl ?_
      refine va_get (D := G.1) (C := RX7) (T := TX7) (N := 9) (ci := 8) hx hb hts hin_wsX70 hown hC.1 (hM.one ((mp_set_n _ _ _ (by first | assumption | exact Ne.symm (by assumption) | simp)).trans hB.O)) 0 rfl rfl 6 (by decide) fl_36 (fun _ z => z) rfl dX7_putOnTape_32 ?_
      refine lv_iconst (v := (1 : Int32)) hx hb dX7_putOnTape_35 (by decide) ?_
      refine lv_iadd hx hb dX7_putOnTape_36 ?_
      refine mp_top (nI (tz + 1)) (nI_add tz 1) ?_
      refine mp_put (D := G.1) (C := RX7) (T := TX7) (N := 9) (ci := 8) hx hb hts hin_wsX70 tyX7 tyX7_ok nmX7 hown hC.1 hM hS ((mp_set_n _ _ _ (by first | assumption | exact Ne.symm (by assumption) | simp)).trans hB.O) rfl 6 (by decide) fl_36 (fun _ z => z) rfl rfl rfl (Nat.le_of_ble_eq_true rfl) dX7_putOnTape_37 (fs' := [.ref l0, .ref l1, .ref l2, .ref l3, .ref tp, .ref (ra pl), .int (nI (tz + 1)), .int td, .int fl]) rfl (fun H locs hM hS => ?_)
      have hM : mp_P G.1 A (mp_set (mp_set M (15, 0, 0) (tp, .inl (G.2.1, 600, .inl (upd tt tz (tp_b v (24 : Int32)))))) (8, 0, 0) (bq, .inr (8, [.ref l0, .ref l1, .ref l2, .ref l3, .ref tp, .ref (ra pl), .int (nI (tz + 1)), .int td, .int fl]))) H := hM
      refine lv_iinc (v := (16 : Int32)) (lv' := [(2, .int (16 : Int32)), (0, .ref bq), (1, .int v)]) hx hb dX7_putOnTape_40 hl (k := 0) rfl (by decide) (by decide) rfl (fun ls hl => ?_)
      refine lv_goto (tgt := 3) hx hb dX7_putOnTape_43 (by decide) ?_
      refine lv_iload_n hx hb dX7_putOnTape_3 rfl (lv_at hl 0 rfl) ?_
      refine lv_if_lt (tgt := 46) hx hb dX7_putOnTape_4 (by decide) (fun c_3 => ?_) (fun c_3 => ?_)
      · have c_3 := c_3
        exact absurd c_3 (by decide)
      · have c_3 := c_3
        refine lv_aload_n hx hb dX7_putOnTape_7 rfl (lv_at hl 1 rfl) ?_
        refine va_get (D := G.1) (C := RX7) (T := TX7) (N := 9) (ci := 8) hx hb hts hin_wsX70 hown hC.1 (hM.one (mp_set_s _ _ _)) 0 rfl rfl 6 (by decide) fl_36 (fun _ z => z) rfl dX7_putOnTape_8 ?_
        refine lv_sipush (v := (600 : Int32)) hx hb dX7_putOnTape_11 (by decide) ?_
        refine lv_icmp_ge (tgt := 46) hx hb dX7_putOnTape_14 (by decide) (fun c_4 => ?_) (fun c_4 => ?_)
        · have c_4 := nn_le (a := 600) (b := tz + 1) (by omega) (by omega) c_4
          exact absurd c_4 (by omega)
        · have c_4 := nn_nle (a := 600) (b := tz + 1) (by omega) (by omega) c_4
          refine lv_aload_n hx hb dX7_putOnTape_17 rfl (lv_at hl 1 rfl) ?_
          refine va_get (D := G.1) (C := RX7) (T := TX7) (N := 9) (ci := 8) hx hb hts hin_wsX70 hown hC.1 (hM.one (mp_set_s _ _ _)) 0 rfl rfl 4 (by decide) fl_25 (fun _ z => z) rfl dX7_putOnTape_18 ?_
          refine lv_aload_n hx hb dX7_putOnTape_21 rfl (lv_at hl 1 rfl) ?_
          refine va_get (D := G.1) (C := RX7) (T := TX7) (N := 9) (ci := 8) hx hb hts hin_wsX70 hown hC.1 (hM.one (mp_set_s _ _ _)) 0 rfl rfl 6 (by decide) fl_36 (fun _ z => z) rfl dX7_putOnTape_22 ?_
          refine lv_iload_n hx hb dX7_putOnTape_25 rfl (lv_at hl 2 rfl) ?_
          refine lv_iload_n hx hb dX7_putOnTape_26 rfl (lv_at hl 0 rfl) ?_
          refine lv_iushr hx hb dX7_putOnTape_27 rfl ?_
          refine lv_i2b hx hb dX7_putOnTape_28 rfl ?_
          refine mp_top (tp_b v (16 : Int32)) (tpb_16 v) ?_
          refine ca_bast hx hb hC hM hS ((mp_set_n _ _ _ (by first | assumption | exact Ne.symm (by assumption) | simp)).trans (mp_set_s _ _ _)) (j := tz + 1) (by omega) (by decide) (tpb_nar _ _) dX7_putOnTape_29 (fun H locs hM hS => ?_)
          have hM : mp_P G.1 A (mp_set (mp_set (mp_set M (15, 0, 0) (tp, .inl (G.2.1, 600, .inl (upd tt tz (tp_b v (24 : Int32)))))) (8, 0, 0) (bq, .inr (8, [.ref l0, .ref l1, .ref l2, .ref l3, .ref tp, .ref (ra pl), .int (nI (tz + 1)), .int td, .int fl]))) (15, 0, 0) (tp, .inl (G.2.1, 600, .inl (upd (upd tt tz (tp_b v (24 : Int32))) (tz + 1) (tp_b v (16 : Int32)))))) H := hM
          refine lv_aload_n hx hb dX7_putOnTape_30 rfl (lv_at hl 1 rfl) ?_
          refine lv_dup hx hb dX7_putOnTape_31 rfl ?_
          refine va_get (D := G.1) (C := RX7) (T := TX7) (N := 9) (ci := 8) hx hb hts hin_wsX70 hown hC.1 (hM.one ((mp_set_n _ _ _ (by first | assumption | exact Ne.symm (by assumption) | simp)).trans (mp_set_s _ _ _))) 0 rfl rfl 6 (by decide) fl_36 (fun _ z => z) rfl dX7_putOnTape_32 ?_
          refine lv_iconst (v := (1 : Int32)) hx hb dX7_putOnTape_35 (by decide) ?_
          refine lv_iadd hx hb dX7_putOnTape_36 ?_
          refine mp_top (nI ((tz + 1) + 1)) (nI_add (tz + 1) 1) ?_
          refine mp_put (D := G.1) (C := RX7) (T := TX7) (N := 9) (ci := 8) hx hb hts hin_wsX70 tyX7 tyX7_ok nmX7 hown hC.1 hM hS ((mp_set_n _ _ _ (by first | assumption | exact Ne.symm (by assumption) | simp)).trans (mp_set_s _ _ _)) rfl 6 (by decide) fl_36 (fun _ z => z) rfl rfl rfl (Nat.le_of_ble_eq_true rfl) dX7_putOnTape_37 (fs' := [.ref l0, .ref l1, .ref l2, .ref l3, .ref tp, .ref (ra pl), .int (nI ((tz + 1) + 1)), .int td, .int fl]) rfl (fun H locs hM hS => ?_)
          have hM : mp_P G.1 A (mp_set (mp_set (mp_set (mp_set M (15, 0, 0) (tp, .inl (G.2.1, 600, .inl (upd tt tz (tp_b v (24 : Int32)))))) (8, 0, 0) (bq, .inr (8, [.ref l0, .ref l1, .ref l2, .ref l3, .ref tp, .ref (ra pl), .int (nI (tz + 1)), .int td, .int fl]))) (15, 0, 0) (tp, .inl (G.2.1, 600, .inl (upd (upd tt tz (tp_b v (24 : Int32))) (tz + 1) (tp_b v (16 : Int32)))))) (8, 0, 0) (bq, .inr (8, [.ref l0, .ref l1, .ref l2, .ref l3, .ref tp, .ref (ra pl), .int (nI ((tz + 1) + 1)), .int td, .int fl]))) H := hM
          refine lv_iinc (v := (8 : Int32)) (lv' := [(2, .int (8 : Int32)), (0, .ref bq), (1, .int v)]) hx hb dX7_putOnTape_40 hl (k := 0) rfl (by decide) (by decide) rfl (fun ls hl => ?_)
          refine lv_goto (tgt := 3) hx hb dX7_putOnTape_43 (by decide) ?_
          refine lv_iload_n hx hb dX7_putOnTape_3 rfl (lv_at hl 0 rfl) ?_
          refine lv_if_lt (tgt := 46) hx hb dX7_putOnTape_4 (by decide) (fun c_5 => ?_) (fun c_5 => ?_)
          · have c_5 := c_5
            exact absurd c_5 (by decide)
          · have c_5 := c_5
            refine lv_aload_n hx hb dX7_putOnTape_7 rfl (lv_at hl 1 rfl) ?_
            refine va_get (D := G.1) (C := RX7) (T := TX7) (N := 9) (ci := 8) hx hb hts hin_wsX70 hown hC.1 (hM.one (mp_set_s _ _ _)) 0 rfl rfl 6 (by decide) fl_36 (fun _ z => z) rfl dX7_putOnTape_8 ?_
            refine lv_sipush (v := (600 : Int32)) hx hb dX7_putOnTape_11 (by decide) ?_
            refine lv_icmp_ge (tgt := 46) hx hb dX7_putOnTape_14 (by decide) (fun c_6 => ?_) (fun c_6 => ?_)
            · have c_6 := nn_le (a := 600) (b := (tz + 1) + 1) (by omega) (by omega) c_6
              exact absurd c_6 (by omega)
            · have c_6 := nn_nle (a := 600) (b := (tz + 1) + 1) (by omega) (by omega) c_6
              refine lv_aload_n hx hb dX7_putOnTape_17 rfl (lv_at hl 1 rfl) ?_
              refine va_get (D := G.1) (C := RX7) (T := TX7) (N := 9) (ci := 8) hx hb hts hin_wsX70 hown hC.1 (hM.one (mp_set_s _ _ _)) 0 rfl rfl 4 (by decide) fl_25 (fun _ z => z) rfl dX7_putOnTape_18 ?_
              refine lv_aload_n hx hb dX7_putOnTape_21 rfl (lv_at hl 1 rfl) ?_
              refine va_get (D := G.1) (C := RX7) (T := TX7) (N := 9) (ci := 8) hx hb hts hin_wsX70 hown hC.1 (hM.one (mp_set_s _ _ _)) 0 rfl rfl 6 (by decide) fl_36 (fun _ z => z) rfl dX7_putOnTape_22 ?_
              refine lv_iload_n hx hb dX7_putOnTape_25 rfl (lv_at hl 2 rfl) ?_
              refine lv_iload_n hx hb dX7_putOnTape_26 rfl (lv_at hl 0 rfl) ?_
              refine lv_iushr hx hb dX7_putOnTape_27 rfl ?_
              refine lv_i2b hx hb dX7_putOnTape_28 rfl ?_
              refine mp_top (tp_b v (8 : Int32)) (tpb_8 v) ?_
              refine ca_bast hx hb hC hM hS ((mp_set_n _ _ _ (by first | assumption | exact Ne.symm (by assumption) | simp)).trans (mp_set_s _ _ _)) (j := (tz + 1) + 1) (by omega) (by decide) (tpb_nar _ _) dX7_putOnTape_29 (fun H locs hM hS => ?_)
              have hM : mp_P G.1 A (mp_set (mp_set (mp_set (mp_set (mp_set M (15, 0, 0) (tp, .inl (G.2.1, 600, .inl (upd tt tz (tp_b v (24 : Int32)))))) (8, 0, 0) (bq, .inr (8, [.ref l0, .ref l1, .ref l2, .ref l3, .ref tp, .ref (ra pl), .int (nI (tz + 1)), .int td, .int fl]))) (15, 0, 0) (tp, .inl (G.2.1, 600, .inl (upd (upd tt tz (tp_b v (24 : Int32))) (tz + 1) (tp_b v (16 : Int32)))))) (8, 0, 0) (bq, .inr (8, [.ref l0, .ref l1, .ref l2, .ref l3, .ref tp, .ref (ra pl), .int (nI ((tz + 1) + 1)), .int td, .int fl]))) (15, 0, 0) (tp, .inl (G.2.1, 600, .inl (upd (upd (upd tt tz (tp_b v (24 : Int32))) (tz + 1) (tp_b v (16 : Int32))) ((tz + 1) + 1) (tp_b v (8 : Int32)))))) H := hM
              refine lv_aload_n hx hb dX7_putOnTape_30 rfl (lv_at hl 1 rfl) ?_
              refine lv_dup hx hb dX7_putOnTape_31 rfl ?_
              refine va_get (D := G.1) (C := RX7) (T := TX7) (N := 9) (ci := 8) hx hb hts hin_wsX70 hown hC.1 (hM.one ((mp_set_n _ _ _ (by first | assumption | exact Ne.symm (by assumption) | simp)).trans (mp_set_s _ _ _))) 0 rfl rfl 6 (by decide) fl_36 (fun _ z => z) rfl dX7_putOnTape_32 ?_
              refine lv_iconst (v := (1 : Int32)) hx hb dX7_putOnTape_35 (by decide) ?_
              refine lv_iadd hx hb dX7_putOnTape_36 ?_
              refine mp_top (nI (((tz + 1) + 1) + 1)) (nI_add ((tz + 1) + 1) 1) ?_
              refine mp_put (D := G.1) (C := RX7) (T := TX7) (N := 9) (ci := 8) hx hb hts hin_wsX70 tyX7 tyX7_ok nmX7 hown hC.1 hM hS ((mp_set_n _ _ _ (by first | assumption | exact Ne.symm (by assumption) | simp)).trans (mp_set_s _ _ _)) rfl 6 (by decide) fl_36 (fun _ z => z) rfl rfl rfl (Nat.le_of_ble_eq_true rfl) dX7_putOnTape_37 (fs' := [.ref l0, .ref l1, .ref l2, .ref l3, .ref tp, .ref (ra pl), .int (nI (((tz + 1) + 1) + 1)), .int td, .int fl]) rfl (fun H locs hM hS => ?_)
              have hM : mp_P G.1 A (mp_set (mp_set (mp_set (mp_set (mp_set (mp_set M (15, 0, 0) (tp, .inl (G.2.1, 600, .inl (upd tt tz (tp_b v (24 : Int32)))))) (8, 0, 0) (bq, .inr (8, [.ref l0, .ref l1, .ref l2, .ref l3, .ref tp, .ref (ra pl), .int (nI (tz + 1)), .int td, .int fl]))) (15, 0, 0) (tp, .inl (G.2.1, 600, .inl (upd (upd tt tz (tp_b v (24 : Int32))) (tz + 1) (tp_b v (16 : Int32)))))) (8, 0, 0) (bq, .inr (8, [.ref l0, .ref l1, .ref l2, .ref l3, .ref tp, .ref (ra pl), .int (nI ((tz + 1) + 1)), .int td, .int fl]))) (15, 0, 0) (tp, .inl (G.2.1, 600, .inl (upd (upd (upd tt tz (tp_b v (24 : Int32))) (tz + 1) (tp_b v (16 : Int32))) ((tz + 1) + 1) (tp_b v (8 : Int32)))))) (8, 0, 0) (bq, .inr (8, [.ref l0, .ref l1, .ref l2, .ref l3, .ref tp, .ref (ra pl), .int (nI (((tz + 1) + 1) + 1)), .int td, .int fl]))) H := hM
              refine lv_iinc (v := (0 : Int32)) (lv' := [(2, .int (0 : Int32)), (0, .ref bq), (1, .int v)]) hx hb dX7_putOnTape_40 hl (k := 0) rfl (by decide) (by decide) rfl (fun ls hl => ?_)
              refine lv_goto (tgt := 3) hx hb dX7_putOnTape_43 (by decide) ?_
              refine lv_iload_n hx hb dX7_putOnTape_3 rfl (lv_at hl 0 rfl) ?_
              refine lv_if_lt (tgt := 46) hx hb dX7_putOnTape_4 (by decide) (fun c_7 => ?_) (fun c_7 => ?_)
              · have c_7 := c_7
                exact absurd c_7 (by decide)
              · have c_7 := c_7
                refine lv_aload_n hx hb dX7_putOnTape_7 rfl (lv_at hl 1 rfl) ?_
                refine va_get (D := G.1) (C := RX7) (T := TX7) (N := 9) (ci := 8) hx hb hts hin_wsX70 hown hC.1 (hM.one (mp_set_s _ _ _)) 0 rfl rfl 6 (by decide) fl_36 (fun _ z => z) rfl dX7_putOnTape_8 ?_
                refine lv_sipush (v := (600 : Int32)) hx hb dX7_putOnTape_11 (by decide) ?_
                refine lv_icmp_ge (tgt := 46) hx hb dX7_putOnTape_14 (by decide) (fun c_8 => ?_) (fun c_8 => ?_)
                · have c_8 := nn_le (a := 600) (b := ((tz + 1) + 1) + 1) (by omega) (by omega) c_8
                  exact absurd c_8 (by omega)
                · have c_8 := nn_nle (a := 600) (b := ((tz + 1) + 1) + 1) (by omega) (by omega) c_8
                  refine lv_aload_n hx hb dX7_putOnTape_17 rfl (lv_at hl 1 rfl) ?_
                  refine va_get (D := G.1) (C := RX7) (T := TX7) (N := 9) (ci := 8) hx hb hts hin_wsX70 hown hC.1 (hM.one (mp_set_s _ _ _)) 0 rfl rfl 4 (by decide) fl_25 (fun _ z => z) rfl dX7_putOnTape_18 ?_
                  refine lv_aload_n hx hb dX7_putOnTape_21 rfl (lv_at hl 1 rfl) ?_
                  refine va_get (D := G.1) (C := RX7) (T := TX7) (N := 9) (ci := 8) hx hb hts hin_wsX70 hown hC.1 (hM.one (mp_set_s _ _ _)) 0 rfl rfl 6 (by decide) fl_36 (fun _ z => z) rfl dX7_putOnTape_22 ?_
                  refine lv_iload_n hx hb dX7_putOnTape_25 rfl (lv_at hl 2 rfl) ?_
                  refine lv_iload_n hx hb dX7_putOnTape_26 rfl (lv_at hl 0 rfl) ?_
                  refine lv_iushr hx hb dX7_putOnTape_27 rfl ?_
                  refine lv_i2b hx hb dX7_putOnTape_28 rfl ?_
                  refine mp_top (tp_b v (0 : Int32)) (tpb_0 v) ?_
                  refine ca_bast hx hb hC hM hS ((mp_set_n _ _ _ (by first | assumption | exact Ne.symm (by assumption) | simp)).trans (mp_set_s _ _ _)) (j := ((tz + 1) + 1) + 1) (by omega) (by decide) (tpb_nar _ _) dX7_putOnTape_29 (fun H locs hM hS => ?_)
                  have hM : mp_P G.1 A (mp_set (mp_set (mp_set (mp_set (mp_set (mp_set (mp_set M (15, 0, 0) (tp, .inl (G.2.1, 600, .inl (upd tt tz (tp_b v (24 : Int32)))))) (8, 0, 0) (bq, .inr (8, [.ref l0, .ref l1, .ref l2, .ref l3, .ref tp, .ref (ra pl), .int (nI (tz + 1)), .int td, .int fl]))) (15, 0, 0) (tp, .inl (G.2.1, 600, .inl (upd (upd tt tz (tp_b v (24 : Int32))) (tz + 1) (tp_b v (16 : Int32)))))) (8, 0, 0) (bq, .inr (8, [.ref l0, .ref l1, .ref l2, .ref l3, .ref tp, .ref (ra pl), .int (nI ((tz + 1) + 1)), .int td, .int fl]))) (15, 0, 0) (tp, .inl (G.2.1, 600, .inl (upd (upd (upd tt tz (tp_b v (24 : Int32))) (tz + 1) (tp_b v (16 : Int32))) ((tz + 1) + 1) (tp_b v (8 : Int32)))))) (8, 0, 0) (bq, .inr (8, [.ref l0, .ref l1, .ref l2, .ref l3, .ref tp, .ref (ra pl), .int (nI (((tz + 1) + 1) + 1)), .int td, .int fl]))) (15, 0, 0) (tp, .inl (G.2.1, 600, .inl (upd (upd (upd (upd tt tz (tp_b v (24 : Int32))) (tz + 1) (tp_b v (16 : Int32))) ((tz + 1) + 1) (tp_b v (8 : Int32))) (((tz + 1) + 1) + 1) (tp_b v (0 : Int32)))))) H := hM
                  refine lv_aload_n hx hb dX7_putOnTape_30 rfl (lv_at hl 1 rfl) ?_
                  refine lv_dup hx hb dX7_putOnTape_31 rfl ?_
                  refine va_get (D := G.1) (C := RX7) (T := TX7) (N := 9) (ci := 8) hx hb hts hin_wsX70 hown hC.1 (hM.one ((mp_set_n _ _ _ (by first | assumption | exact Ne.symm (by assumption) | simp)).trans (mp_set_s _ _ _))) 0 rfl rfl 6 (by decide) fl_36 (fun _ z => z) rfl dX7_putOnTape_32 ?_
                  refine lv_iconst (v := (1 : Int32)) hx hb dX7_putOnTape_35 (by decide) ?_
                  refine lv_iadd hx hb dX7_putOnTape_36 ?_
                  refine mp_top (nI ((((tz + 1) + 1) + 1) + 1)) (nI_add (((tz + 1) + 1) + 1) 1) ?_
                  refine mp_put (D := G.1) (C := RX7) (T := TX7) (N := 9) (ci := 8) hx hb hts hin_wsX70 tyX7 tyX7_ok nmX7 hown hC.1 hM hS ((mp_set_n _ _ _ (by first | assumption | exact Ne.symm (by assumption) | simp)).trans (mp_set_s _ _ _)) rfl 6 (by decide) fl_36 (fun _ z => z) rfl rfl rfl (Nat.le_of_ble_eq_true rfl) dX7_putOnTape_37 (fs' := [.ref l0, .ref l1, .ref l2, .ref l3, .ref tp, .ref (ra pl), .int (nI ((((tz + 1) + 1) + 1) + 1)), .int td, .int fl]) rfl (fun H locs hM hS => ?_)
                  have hM : mp_P G.1 A (mp_set (mp_set (mp_set (mp_set (mp_set (mp_set (mp_set (mp_set M (15, 0, 0) (tp, .inl (G.2.1, 600, .inl (upd tt tz (tp_b v (24 : Int32)))))) (8, 0, 0) (bq, .inr (8, [.ref l0, .ref l1, .ref l2, .ref l3, .ref tp, .ref (ra pl), .int (nI (tz + 1)), .int td, .int fl]))) (15, 0, 0) (tp, .inl (G.2.1, 600, .inl (upd (upd tt tz (tp_b v (24 : Int32))) (tz + 1) (tp_b v (16 : Int32)))))) (8, 0, 0) (bq, .inr (8, [.ref l0, .ref l1, .ref l2, .ref l3, .ref tp, .ref (ra pl), .int (nI ((tz + 1) + 1)), .int td, .int fl]))) (15, 0, 0) (tp, .inl (G.2.1, 600, .inl (upd (upd (upd tt tz (tp_b v (24 : Int32))) (tz + 1) (tp_b v (16 : Int32))) ((tz + 1) + 1) (tp_b v (8 : Int32)))))) (8, 0, 0) (bq, .inr (8, [.ref l0, .ref l1, .ref l2, .ref l3, .ref tp, .ref (ra pl), .int (nI (((tz + 1) + 1) + 1)), .int td, .int fl]))) (15, 0, 0) (tp, .inl (G.2.1, 600, .inl (upd (upd (upd (upd tt tz (tp_b v (24 : Int32))) (tz + 1) (tp_b v (16 : Int32))) ((tz + 1) + 1) (tp_b v (8 : Int32))) (((tz + 1) + 1) + 1) (tp_b v (0 : Int32)))))) (8, 0, 0) (bq, .inr (8, [.ref l0, .ref l1, .ref l2, .ref l3, .ref tp, .ref (ra pl), .int (nI ((((tz + 1) + 1) + 1) + 1)), .int td, .int fl]))) H := hM
                  refine lv_iinc (v := (-8 : Int32)) (lv' := [(2, .int (-8 : Int32)), (0, .ref bq), (1, .int v)]) hx hb dX7_putOnTape_40 hl (k := 0) rfl (by decide) (by decide) rfl (fun ls hl => ?_)
                  refine lv_goto (tgt := 3) hx hb dX7_putOnTape_43 (by decide) ?_
                  refine lv_iload_n hx hb dX7_putOnTape_3 rfl (lv_at hl 0 rfl) ?_
                  refine lv_if_lt (tgt := 46) hx hb dX7_putOnTape_4 (by decide) (fun c_9 => ?_) (fun c_9 => ?_)
                  · have c_9 := c_9
                    exact mp_vret hx hb hr hlocks (Nat.le_of_ble_eq_true rfl) (Nat.le_of_ble_eq_true rfl) hM hS dX7_putOnTape_46 (⟨rfl, (((((((hB.tape _).obj (tz + 1) td fl (by omega)).tape _).obj (tz + 1 + 1) td fl (by omega)).tape _).obj (tz + 1 + 1 + 1) td fl (by omega)).tape _).obj (tz + 1 + 1 + 1 + 1) td fl (by omega), fun k hk => by rw [fr9 (by simp) k hk, fr9 (by simp) k hk, fr9 (by simp) k hk, fr9 (by simp) k hk, fr9 (by simp) k hk, fr9 (by simp) k hk, fr9 (by simp) k hk, fr9 (by simp) k hk]⟩)
                  · have c_9 := c_9
                    exact absurd c_9 (by decide)
abbrev rmX7_feed : Room := { frames := 1, cells := 0, slots := 0, locals := 22 }
set_option maxHeartbeats 4000000 in
set_option maxRecDepth 100000 in
theorem c_X7_feed (l : Launch) (X : mp_X) (G : mp_G) (A : Nat → Prop) (M : mp_M) (bq : Nat) (l0 : Nat) (l1 : Nat) (l2 : Nat) (l3 : Nat) (tp : Nat) (tz : Nat) (td : Int32) (fl : Int32) (tt : Nat → Int32) (pl : Nat) (ra : Nat → Nat) (Rg : Nat → rg_R) (pn : Nat) (pa : Nat → Nat) (pf : Nat → Int32) (pk : Nat → Int32) (zc : Nat → Nat) (zz : Nat → Nat → zr) (ap : Nat) (aa : Nat → Nat) (dq : Nat → Nat) (av : Nat → Nat → Int32) (dv : Nat → ds_D) (nh : Nat) (ah : Nat → Nat) (vh : Nat → Nat → Int32) (hB : BN G X M bq l0 l1 l2 l3 tp tz td fl tt pl ra Rg pn pa pf pk zc zz ap aa dq av dv nh ah vh) (x1 x2 x3 x4 x5 : Int32) : mp_Met l X G A yX7_feed wsX7_feed rmX7_feed ([.ref bq, .int x1, .int x2, .int x3, .int x4, .int x5] : List Value) M (fun r M1 => (tz + 20 ≤ 600 ∧ r = some (.int (nI (tz + 20))) ∧ BN G X M1 bq l0 l1 l2 l3 tp (tz + 20) td fl (md_fourG (md_fourG (md_fourG (md_fourG (md_fourG tt tz x1) (tz + 4) x2) (tz + 4 + 4) x3) (tz + 4 + 4 + 4) x4) (tz + 4 + 4 + 4 + 4) x5) pl ra Rg pn pa pf pk zc zz ap aa dq av dv nh ah vh ∧ (∀ k : mp_N, k.1 = 9 → M1 k = M k)) ∨ (¬ tz + 20 ≤ 600 ∧ r = some (.int (-1)) ∧ M1 = M)) 0 0 := by
  refine mp_ofW (cc := cX7_feed) (maxL := 6) (ret := (some .int)) (by decide) rfl (Nat.le_of_ble_eq_true rfl) ?_
  intro p e s m below meth c ls hx hb hr hts hown hlocks hnm hml hC hM hS hl
  have hl : lv_has ls 6 [(0, .ref bq), (1, .int x1), (2, .int x2), (3, .int x3), (4, .int x4), (5, .int x5)] := hl
  have hown : s.vm.findClass RX7 = some m.cls := hown
  have hin_wsX70 : ∀ w ∈ wsX70, w ∈ wsX7_feed := fun _ h => List.mem_cons_of_mem _ (List.mem_append_right _ h)
  have fl_36 := hts (.fieldLink RX7 36 "PlanningBench" "taped" "I") (List.mem_of_getElem? (i := 1) rfl)
  have hb9 := hB.b
  refine lv_aload_n hx hb dX7_feed_0 rfl (lv_at hl 0 rfl) ?_
  refine va_get (D := G.1) (C := RX7) (T := TX7) (N := 9) (ci := 8) hx hb hts hin_wsX70 hown hC.1 (hM.one hB.O) 0 rfl rfl 6 (by decide) fl_36 (fun _ z => z) rfl dX7_feed_1 ?_
  refine lv_sipush (v := (580 : Int32)) hx hb dX7_feed_4 (by decide) ?_
  refine lv_icmp_le (tgt := 12) hx hb dX7_feed_7 (by decide) (fun c1 => ?_) (fun c1 => ?_)
  · have c1 := nn_le (a := tz) (b := 580) (by omega) (by omega) c1
    refine lv_aload_n hx hb dX7_feed_12 rfl (lv_at hl 0 rfl) ?_
    refine lv_iload_n hx hb dX7_feed_13 rfl (lv_at hl 1 rfl) ?_
    refine mp_call (va_runV (As := [.int x1]) (rest := []) ⟨hx, hb, hml, hown, hts⟩ (c_X7_putOnTape l X G A (M) bq l0 l1 l2 l3 tp tz td fl tt pl ra Rg pn pa pf pk zc zz ap aa dq av dv nh ah vh hB x1 (by omega)) (cwV 1 hts gX7_feed_X7_putOnTape rfl rfl rfl (by decide +kernel) ⟨Nat.le_of_ble_eq_true rfl, Nat.le_of_ble_eq_true rfl⟩) (mp_preV hC hS hM (mp_recv hC.1 hM hB.O (r := (RX7, TX7, 9)) rfl)) rfl rfl hl.1 rfl (lv_room (Nat.le_of_ble_eq_true rfl)) dX7_feed_14 ⟨Nat.le_of_ble_eq_true rfl, Nat.le_of_ble_eq_true rfl⟩) hS (fun v Mf1 H locs hp hM hS => ?_)
    obtain ⟨rfl, hB1, hF1⟩ := hp
    refine lv_aload_n hx hb dX7_feed_17 rfl (lv_at hl 0 rfl) ?_
    refine lv_iload_n hx hb dX7_feed_18 rfl (lv_at hl 2 rfl) ?_
    refine mp_call (va_runV (As := [.int x2]) (rest := []) ⟨hx, hb, hml, hown, hts⟩ (c_X7_putOnTape l X G A (Mf1) bq l0 l1 l2 l3 tp (tz + 4) td fl (md_fourG tt tz x1) pl ra Rg pn pa pf pk zc zz ap aa dq av dv nh ah vh hB1 x2 (by omega)) (cwV 1 hts gX7_feed_X7_putOnTape rfl rfl rfl (by decide +kernel) ⟨Nat.le_of_ble_eq_true rfl, Nat.le_of_ble_eq_true rfl⟩) (mp_preV hC hS hM (mp_recv hC.1 hM hB1.O (r := (RX7, TX7, 9)) rfl)) rfl rfl hl.1 rfl (lv_room (Nat.le_of_ble_eq_true rfl)) dX7_feed_19 ⟨Nat.le_of_ble_eq_true rfl, Nat.le_of_ble_eq_true rfl⟩) hS (fun v Mf2 H locs hp hM hS => ?_)
    obtain ⟨rfl, hB2, hF2⟩ := hp
    refine lv_aload_n hx hb dX7_feed_22 rfl (lv_at hl 0 rfl) ?_
    refine lv_iload_n hx hb dX7_feed_23 rfl (lv_at hl 3 rfl) ?_
    refine mp_call (va_runV (As := [.int x3]) (rest := []) ⟨hx, hb, hml, hown, hts⟩ (c_X7_putOnTape l X G A (Mf2) bq l0 l1 l2 l3 tp (tz + 4 + 4) td fl (md_fourG (md_fourG tt tz x1) (tz + 4) x2) pl ra Rg pn pa pf pk zc zz ap aa dq av dv nh ah vh hB2 x3 (by omega)) (cwV 1 hts gX7_feed_X7_putOnTape rfl rfl rfl (by decide +kernel) ⟨Nat.le_of_ble_eq_true rfl, Nat.le_of_ble_eq_true rfl⟩) (mp_preV hC hS hM (mp_recv hC.1 hM hB2.O (r := (RX7, TX7, 9)) rfl)) rfl rfl hl.1 rfl (lv_room (Nat.le_of_ble_eq_true rfl)) dX7_feed_24 ⟨Nat.le_of_ble_eq_true rfl, Nat.le_of_ble_eq_true rfl⟩) hS (fun v Mf3 H locs hp hM hS => ?_)
    obtain ⟨rfl, hB3, hF3⟩ := hp
    refine lv_aload_n hx hb dX7_feed_27 rfl (lv_at hl 0 rfl) ?_
    refine lv_iload hx hb dX7_feed_28 (lv_at hl 4 rfl) ?_
    refine mp_call (va_runV (As := [.int x4]) (rest := []) ⟨hx, hb, hml, hown, hts⟩ (c_X7_putOnTape l X G A (Mf3) bq l0 l1 l2 l3 tp (tz + 4 + 4 + 4) td fl (md_fourG (md_fourG (md_fourG tt tz x1) (tz + 4) x2) (tz + 4 + 4) x3) pl ra Rg pn pa pf pk zc zz ap aa dq av dv nh ah vh hB3 x4 (by omega)) (cwV 1 hts gX7_feed_X7_putOnTape rfl rfl rfl (by decide +kernel) ⟨Nat.le_of_ble_eq_true rfl, Nat.le_of_ble_eq_true rfl⟩) (mp_preV hC hS hM (mp_recv hC.1 hM hB3.O (r := (RX7, TX7, 9)) rfl)) rfl rfl hl.1 rfl (lv_room (Nat.le_of_ble_eq_true rfl)) dX7_feed_30 ⟨Nat.le_of_ble_eq_true rfl, Nat.le_of_ble_eq_true rfl⟩) hS (fun v Mf4 H locs hp hM hS => ?_)
    obtain ⟨rfl, hB4, hF4⟩ := hp
    refine lv_aload_n hx hb dX7_feed_33 rfl (lv_at hl 0 rfl) ?_
    refine lv_iload hx hb dX7_feed_34 (lv_at hl 5 rfl) ?_
    refine mp_call (va_runV (As := [.int x5]) (rest := []) ⟨hx, hb, hml, hown, hts⟩ (c_X7_putOnTape l X G A (Mf4) bq l0 l1 l2 l3 tp (tz + 4 + 4 + 4 + 4) td fl (md_fourG (md_fourG (md_fourG (md_fourG tt tz x1) (tz + 4) x2) (tz + 4 + 4) x3) (tz + 4 + 4 + 4) x4) pl ra Rg pn pa pf pk zc zz ap aa dq av dv nh ah vh hB4 x5 (by omega)) (cwV 1 hts gX7_feed_X7_putOnTape rfl rfl rfl (by decide +kernel) ⟨Nat.le_of_ble_eq_true rfl, Nat.le_of_ble_eq_true rfl⟩) (mp_preV hC hS hM (mp_recv hC.1 hM hB4.O (r := (RX7, TX7, 9)) rfl)) rfl rfl hl.1 rfl (lv_room (Nat.le_of_ble_eq_true rfl)) dX7_feed_36 ⟨Nat.le_of_ble_eq_true rfl, Nat.le_of_ble_eq_true rfl⟩) hS (fun v Mf5 H locs hp hM hS => ?_)
    obtain ⟨rfl, hB5, hF5⟩ := hp
    refine lv_aload_n hx hb dX7_feed_39 rfl (lv_at hl 0 rfl) ?_
    refine va_get (D := G.1) (C := RX7) (T := TX7) (N := 9) (ci := 8) hx hb hts hin_wsX70 hown hC.1 (hM.one hB5.O) 0 rfl rfl 6 (by decide) fl_36 (fun _ z => z) rfl dX7_feed_40 ?_
    exact mp_iret hx hb hr hlocks (Nat.le_of_ble_eq_true rfl) (Nat.le_of_ble_eq_true rfl) hM hS dX7_feed_43 (Or.inl ⟨by omega, rfl, hB5, fun k hk => by rw [hF5 k hk, hF4 k hk, hF3 k hk, hF2 k hk, hF1 k hk]⟩)
  · have c1 := nn_nle (a := tz) (b := 580) (by omega) (by omega) c1
    refine lv_iconst (v := (-1 : Int32)) hx hb dX7_feed_10 (by decide) ?_
    exact mp_iret hx hb hr hlocks (Nat.le_of_ble_eq_true rfl) (Nat.le_of_ble_eq_true rfl) hM hS dX7_feed_11 (Or.inr ⟨by omega, rfl, rfl⟩)
abbrev rmX7_apply : Room := { frames := 7, cells := 3, slots := 169, locals := 171 }
set_option maxHeartbeats 4000000 in
set_option maxRecDepth 100000 in
theorem c_X7_apply (l : Launch) (X : mp_X) (G : mp_G) (A : Nat → Prop) (M : mp_M) (bq : Nat) (l0 : Nat) (l1 : Nat) (l2 : Nat) (l3 : Nat) (tp : Nat) (tz : Nat) (td : Int32) (fl : Int32) (tt : Nat → Int32) (pl : Nat) (ra : Nat → Nat) (Rg : Nat → rg_R) (pn : Nat) (pa : Nat → Nat) (pf : Nat → Int32) (pk : Nat → Int32) (zc : Nat → Nat) (zz : Nat → Nat → zr) (ap : Nat) (aa : Nat → Nat) (dq : Nat → Nat) (av : Nat → Nat → Int32) (dv : Nat → ds_D) (nh : Nat) (ah : Nat → Nat) (vh : Nat → Nat → Int32) (hB : BN G X M bq l0 l1 l2 l3 tp tz td fl tt pl ra Rg pn pa pf pk zc zz ap aa dq av dv nh ah vh) (q x0 y0 x1 y1 ht us : Int32) : mp_Met l X G A yX7_apply wsX7_apply rmX7_apply ([.ref bq, .int q, .int x0, .int y0, .int x1, .int y1, .int ht, .int us] : List Value) M (fun r M1 => ((cs_des pl q x0 y0 x1 y1 ht us ∧ ap ≠ 40) ∧ r = some (.int (nI ap)) ∧ (∃ aa2 dq2, BN G X M1 bq l0 l1 l2 l3 tp tz td fl tt pl ra Rg pn pa pf pk zc zz (ap + 1) aa2 dq2 (va_up av ap (apv0 td)) (va_up dv ap (q, x0, y0, x1, y1, ht, us)) nh ah vh) ∧ (∀ k : mp_N, k.1 = 9 → M1 k = M k)) ∨ (¬ (cs_des pl q x0 y0 x1 y1 ht us ∧ ap ≠ 40) ∧ r = some (.int (-1)) ∧ M1 = M)) 3 169 := by
  refine mp_ofW (cc := cX7_apply) (maxL := 9) (ret := (some .int)) (by decide) rfl (Nat.le_of_ble_eq_true rfl) ?_
  intro p e s m below meth c ls hx hb hr hts hown hlocks hnm hml hC hM hS hl
  have hl : lv_has ls 9 [(0, .ref bq), (1, .int q), (2, .int x0), (3, .int y0), (4, .int x1), (5, .int y1), (6, .int ht), (7, .int us)] := hl
  have hown : s.vm.findClass RX7 = some m.cls := hown
  have hin_wsX70 : ∀ w ∈ wsX70, w ∈ wsX7_apply := fun _ h => List.mem_cons_of_mem _ (List.mem_append_left _ (List.mem_append_left _ (List.mem_append_left _ (List.mem_append_right _ h))))
  have fl_19 := hts (.fieldLink RX7 19 "PlanningBench" "applications" "Ljava/util/ArrayList;") (List.mem_of_getElem? (i := 1) rfl)
  have cl_209 := hts (.classLink RX7 209 RX0) (List.mem_of_getElem? (i := 2) rfl)
  have in_X0 := hts (.instantiable RX0 12) (List.mem_of_getElem? (i := 3) rfl)
  have mi_RX0 := hts (.initialized RX0) (List.mem_of_getElem? (i := 4) rfl)
  have hin_wsX00 : ∀ w ∈ wsX00, w ∈ wsX7_apply := fun _ h => List.mem_cons_of_mem _ (List.mem_append_left _ (List.mem_append_left _ (List.mem_append_right _ h)))
  have fl_40 := hts (.fieldLink RX7 40 "PlanningBench" "today" "I") (List.mem_of_getElem? (i := 5) rfl)
  have mn_X0_init := hts (.instanceMethod yX0_init) (List.mem_of_getElem? (i := 63) rfl)
  have ml_225 := hts (.methodLink RX7 225 yX0_init) (List.mem_of_getElem? (i := 62) rfl)
  have hb9 := hB.b
  refine lv_aload_n hx hb dX7_apply_0 rfl (lv_at hl 0 rfl) ?_
  refine va_get (D := G.1) (C := RX7) (T := TX7) (N := 9) (ci := 8) hx hb hts hin_wsX70 hown hC.1 (hM.one hB.O) 0 rfl rfl 2 (by decide) fl_19 (fun _ z => z) rfl dX7_apply_1 ?_
  refine mp_calli (va_runV (As := []) (rest := []) ⟨hx, hb, hml, hown, hts⟩ (c_size l X G A (M) hB.L2) (cwV 0 hts gX7_apply_Jx4a65c_size_8abf5 rfl rfl rfl (by decide +kernel) ⟨Nat.le_of_ble_eq_true rfl, Nat.le_of_ble_eq_true rfl⟩) (mp_preV hC hS hM (mp_recvL hC.1 hM hB.L2)) rfl rfl hl.1 rfl (lv_room (Nat.le_of_ble_eq_true rfl)) dX7_apply_4 ⟨Nat.le_of_ble_eq_true rfl, Nat.le_of_ble_eq_true rfl⟩) hS (fun H locs hM hS => ?_)
  refine lv_bipush (v := (40 : Int32)) hx hb dX7_apply_7 (by decide) ?_
  refine lv_icmp_lt (tgt := 14) hx hb dX7_apply_9 (by decide) (fun c1 => ?_) (fun c1 => ?_)
  · have c1 := nn_lt (a := ap) (b := 40) (by omega) (by omega) c1
    refine lv_aload_n hx hb dX7_apply_14 rfl (lv_at hl 0 rfl) ?_
    refine lv_iload_n hx hb dX7_apply_15 rfl (lv_at hl 1 rfl) ?_
    refine lv_iload_n hx hb dX7_apply_16 rfl (lv_at hl 2 rfl) ?_
    refine lv_iload_n hx hb dX7_apply_17 rfl (lv_at hl 3 rfl) ?_
    refine lv_iload hx hb dX7_apply_18 (lv_at hl 4 rfl) ?_
    refine lv_iload hx hb dX7_apply_20 (lv_at hl 5 rfl) ?_
    refine lv_iload hx hb dX7_apply_22 (lv_at hl 6 rfl) ?_
    refine lv_iload hx hb dX7_apply_24 (lv_at hl 7 rfl) ?_
    refine mp_call (va_runV (As := [.int q, .int x0, .int y0, .int x1, .int y1, .int ht, .int us]) (rest := []) ⟨hx, hb, hml, hown, hts⟩ (c_X7_designOn l X G A (M) bq l0 l1 l2 l3 tp tz td fl tt pl ra Rg pn pa pf pk zc zz ap aa dq av dv nh ah vh hB q x0 y0 x1 y1 ht us (2, ap, 0) (hB.a.2.2.2 ap (Nat.le_refl ap)).2) (cwV 7 hts gX7_apply_X7_designOn rfl rfl rfl (by decide +kernel) ⟨Nat.le_of_ble_eq_true rfl, Nat.le_of_ble_eq_true rfl⟩) (mp_preV hC hS hM (mp_recv hC.1 hM hB.O (r := (RX7, TX7, 9)) rfl)) rfl rfl hl.1 rfl (lv_room (Nat.le_of_ble_eq_true rfl)) dX7_apply_26 ⟨Nat.le_of_ble_eq_true rfl, Nat.le_of_ble_eq_true rfl⟩) hS (fun v M1 H locs hp hM hS => ?_)
    rcases hp with ⟨hds, qd, rfl, rfl⟩ | ⟨hds, rfl, eM⟩
    · skip
      refine lv_astore (lv' := [(8, .ref qd), (0, .ref bq), (1, .int q), (2, .int x0), (3, .int y0), (4, .int x1), (5, .int y1), (6, .int ht), (7, .int us)]) hx hb dX7_apply_29 hl (by decide) rfl (fun ls hl => ?_)
      refine lv_aload hx hb dX7_apply_31 (lv_at hl 0 rfl) ?_
      refine lv_ifnonnull (tgt := 38) hx hb dX7_apply_33 (by decide) ?_
      refine lv_aload_n hx hb dX7_apply_38 rfl (lv_at hl 1 rfl) ?_
      refine va_get (D := G.1) (C := RX7) (T := TX7) (N := 9) (ci := 8) hx hb hts hin_wsX70 hown hC.1 (hM.one ((mp_set_n _ _ _ (by simp)).trans hB.O)) 0 rfl rfl 2 (by decide) fl_19 (fun _ z => z) rfl dX7_apply_39 ?_
      refine mp_new (kn := (1, ap, 0)) (C := RX0) (T := TX0) (N := 12) (ci := 1) (fs := [.null, .int (0 : Int32), .int (0 : Int32), .int (0 : Int32), .int (0 : Int32), .int (0 : Int32), .int (0 : Int32), .int (0 : Int32), .int (0 : Int32), .int (0 : Int32), .int (0 : Int32), .int (0 : Int32)]) hx hb hts hin_wsX00 tyX0 tyX0_ok hown cl_209 in_X0 mi_RX0 hC.1 hM hS hC.2.2.2 rfl (fun j hj => by rcases (show j = 0 ∨ j = 1 ∨ j = 2 ∨ j = 3 ∨ j = 4 ∨ j = 5 ∨ j = 6 ∨ j = 7 ∨ j = 8 ∨ j = 9 ∨ j = 10 ∨ j = 11 by omega) with rfl | rfl | rfl | rfl | rfl | rfl | rfl | rfl | rfl | rfl | rfl | rfl <;> rfl) (Nat.le_of_ble_eq_true rfl) (Nat.le_of_ble_eq_true rfl) dX7_apply_42 ((mp_set_n _ _ _ (by simp)).trans (hB.a.2.2.2 ap (Nat.le_refl ap)).1) (fun qa H hM hS => ?_)
      have hM : mp_P G.1 A (mp_set (mp_set M (2, ap, 0) (qd, .inr (2, [.int q, .int x0, .int y0, .int x1, .int y1, .int ht, .int us]))) (1, ap, 0) (qa, .inr (1, [.null, .int (0 : Int32), .int (0 : Int32), .int (0 : Int32), .int (0 : Int32), .int (0 : Int32), .int (0 : Int32), .int (0 : Int32), .int (0 : Int32), .int (0 : Int32), .int (0 : Int32), .int (0 : Int32)]))) H := hM
      refine lv_dup hx hb dX7_apply_45 rfl ?_
      refine lv_aload hx hb dX7_apply_46 (lv_at hl 0 rfl) ?_
      refine lv_aload_n hx hb dX7_apply_48 rfl (lv_at hl 1 rfl) ?_
      refine va_get (D := G.1) (C := RX7) (T := TX7) (N := 9) (ci := 8) hx hb hts hin_wsX70 hown hC.1 (hM.one ((mp_set_n _ _ _ (by simp)).trans ((mp_set_n _ _ _ (by simp)).trans hB.O))) 0 rfl rfl 7 (by decide) fl_40 (fun _ z => z) rfl dX7_apply_49 ?_
      refine mp_callv (va_runI (As := [.ref qd, .int td]) (rest := [.ref qa, .ref l2]) ⟨hx, hb, hml, hown, hts⟩ (c_X0_init l X G A (mp_set (mp_set M (2, ap, 0) (qd, .inr (2, [.int q, .int x0, .int y0, .int x1, .int y1, .int ht, .int us]))) (1, ap, 0) (qa, .inr (1, [.null, .int (0 : Int32), .int (0 : Int32), .int (0 : Int32), .int (0 : Int32), .int (0 : Int32), .int (0 : Int32), .int (0 : Int32), .int (0 : Int32), .int (0 : Int32), .int (0 : Int32), .int (0 : Int32)]))) qa (1, ap, 0) qd td (mp_set_s _ _ _)) (cwI 2 hts gX7_apply_X0_init rfl rfl rfl mi_RX0 ml_225 mn_X0_init rfl (by decide +kernel) ⟨Nat.le_of_ble_eq_true rfl, Nat.le_of_ble_eq_true rfl⟩) (mp_preS hC hS hM) rfl rfl hl.1 rfl (lv_room (Nat.le_of_ble_eq_true rfl)) dX7_apply_52 ⟨Nat.le_of_ble_eq_true rfl, Nat.le_of_ble_eq_true rfl⟩) hS (fun H locs hM hS => ?_)
      rw [mp_set_set] at hM
      have hM : mp_P G.1 A (mp_set (mp_set M (2, ap, 0) (qd, .inr (2, [.int q, .int x0, .int y0, .int x1, .int y1, .int ht, .int us]))) (1, ap, 0) (qa, .inr (1, ap_fs qd (apv0 td)))) H := hM
      refine mp_call (va_runV (As := [.ref qa]) (rest := []) ⟨hx, hb, hml, hown, hts⟩ (c_add l X G A (mp_set (mp_set M (2, ap, 0) (qd, .inr (2, [.int q, .int x0, .int y0, .int x1, .int y1, .int ht, .int us]))) (1, ap, 0) (qa, .inr (1, ap_fs qd (apv0 td)))) (hB.L2.congr ((mp_set_n _ _ _ (by simp)).trans (mp_set_n _ _ _ (by simp))) ((mp_set_n _ _ _ (by simp)).trans (mp_set_n _ _ _ (by simp)))) (16, 0, 0) ((mp_set_n _ _ _ (by simp)).trans ((mp_set_n _ _ _ (by simp)).trans hB.n16)) (by simp) (by omega) 1 (RX0, TX0, 12) rfl (List.mem_of_getElem? (i := 28) rfl) (fun i hi => ⟨(1, i, 0), _, (mp_set_n _ _ _ (by simp; omega)).trans ((mp_set_n _ _ _ (by simp)).trans (hB.A hi))⟩) (1, ap, 0) qa _ (mp_set_s _ _ _) (by decide)) (cwV 1 hts gX7_apply_Jx4a65c_add_9ea2d rfl rfl rfl (by decide +kernel) ⟨Nat.le_of_ble_eq_true rfl, Nat.le_of_ble_eq_true rfl⟩) (mp_preV hC hS hM (mp_recvL hC.1 hM (hB.L2.congr ((mp_set_n _ _ _ (by simp)).trans (mp_set_n _ _ _ (by simp))) ((mp_set_n _ _ _ (by simp)).trans (mp_set_n _ _ _ (by simp)))))) rfl rfl hl.1 rfl (lv_room (Nat.le_of_ble_eq_true rfl)) dX7_apply_55 ⟨Nat.le_of_ble_eq_true rfl, Nat.le_of_ble_eq_true rfl⟩) hS (fun v M2 H locs hp hM hS => ?_)
      obtain ⟨rfl, x9, y9, hM2, hL2⟩ := hp
      have hF2 : ∀ k : mp_N, k.1 ≠ 21 → k.1 ≠ 22 → M2 k = (mp_set (mp_set M (2, ap, 0) (qd, .inr (2, [.int q, .int x0, .int y0, .int x1, .int y1, .int ht, .int us]))) (1, ap, 0) (qa, .inr (1, ap_fs qd (apv0 td)))) k := fun k z1 z2 => by rw [hM2, mp_set_n _ _ _ (fun z => z1 (by rw [z])), mp_set_n _ _ _ (fun z => z2 (by rw [z]))]
      refine lv_pop hx hb dX7_apply_58 rfl ?_
      refine lv_aload_n hx hb dX7_apply_59 rfl (lv_at hl 1 rfl) ?_
      refine va_get (D := G.1) (C := RX7) (T := TX7) (N := 9) (ci := 8) hx hb hts hin_wsX70 hown hC.1 (hM.one ((hF2 (8, 0, 0) (by simp) (by simp)).trans ((mp_set_n _ _ _ (by simp)).trans ((mp_set_n _ _ _ (by simp)).trans hB.O)))) 0 rfl rfl 2 (by decide) fl_19 (fun _ z => z) rfl dX7_apply_60 ?_
      refine mp_calli (va_runV (As := []) (rest := []) ⟨hx, hb, hml, hown, hts⟩ (c_size l X G A (M2) hL2) (cwV 0 hts gX7_apply_Jx4a65c_size_8abf5 rfl rfl rfl (by decide +kernel) ⟨Nat.le_of_ble_eq_true rfl, Nat.le_of_ble_eq_true rfl⟩) (mp_preV hC hS hM (mp_recvL hC.1 hM hL2)) rfl rfl hl.1 rfl (lv_room (Nat.le_of_ble_eq_true rfl)) dX7_apply_63 ⟨Nat.le_of_ble_eq_true rfl, Nat.le_of_ble_eq_true rfl⟩) hS (fun H locs hM hS => ?_)
      refine lv_iconst (v := (1 : Int32)) hx hb dX7_apply_66 (by decide) ?_
      refine lv_isub hx hb dX7_apply_67 ?_
      refine mp_top (nI ((ap + 1) - 1)) (pk_sub (a := ap + 1) (b := 1) (by omega)) ?_
      exact mp_iret hx hb hr hlocks (Nat.le_of_ble_eq_true rfl) (Nat.le_of_ble_eq_true rfl) hM hS dX7_apply_68 (Or.inl ⟨⟨hds, by omega⟩, by rw [show ap + 1 - 1 = ap by omega], ⟨_, _, hB.napp (qd := qd) (D := (q, x0, y0, x1, y1, ht, us)) (by omega) hL2 ((hF2 _ (by simp) (by simp)).trans (mp_set_s _ _ _)) ((hF2 _ (by simp) (by simp)).trans ((mp_set_n _ _ _ (by simp)).trans (mp_set_s _ _ _))) (fun j h1 h2 => by rw [hF2 j (fun z => h1 (by rw [z]; simp)) (fun z => h1 (by rw [z]; simp)), mp_set_n _ _ _ (fun z => h2 (by rw [z]; simp) (by rw [z])), mp_set_n _ _ _ (fun z => h2 (by rw [z]; simp) (by rw [z]))])⟩, fun k hk => by rw [hF2 k (by rw [hk]; decide) (by rw [hk]; decide), fr9 (by simp) k hk, fr9 (by simp) k hk]⟩)
    · skip
      rw [eM] at hM
      refine lv_astoreN (lv' := [(8, .null), (0, .ref bq), (1, .int q), (2, .int x0), (3, .int y0), (4, .int x1), (5, .int y1), (6, .int ht), (7, .int us)]) hx hb dX7_apply_29 hl (by decide) rfl (fun ls hl => ?_)
      refine lv_aloadN hx hb dX7_apply_31 (lv_at hl 0 rfl) ?_
      refine lv_ifnonnullN hx hb dX7_apply_33 ?_
      refine lv_iconst (v := (-1 : Int32)) hx hb dX7_apply_36 (by decide) ?_
      exact mp_iret hx hb hr hlocks (Nat.le_of_ble_eq_true rfl) (Nat.le_of_ble_eq_true rfl) hM hS dX7_apply_37 (Or.inr ⟨fun z => hds z.1, rfl, rfl⟩)
  · have c1 := nn_nlt (a := ap) (b := 40) (by omega) (by omega) c1
    refine lv_iconst (v := (-1 : Int32)) hx hb dX7_apply_12 (by decide) ?_
    exact mp_iret hx hb hr hlocks (Nat.le_of_ble_eq_true rfl) (Nat.le_of_ble_eq_true rfl) hM hS dX7_apply_13 (Or.inr ⟨fun z => z.2 (by omega), rfl, rfl⟩)
abbrev rmX7_hold : Room := { frames := 7, cells := 2, slots := 154, locals := 171 }
set_option maxHeartbeats 4000000 in
set_option maxRecDepth 100000 in
theorem c_X7_hold (l : Launch) (X : mp_X) (G : mp_G) (A : Nat → Prop) (M : mp_M) (bq : Nat) (l0 : Nat) (l1 : Nat) (l2 : Nat) (l3 : Nat) (tp : Nat) (tz : Nat) (td : Int32) (fl : Int32) (tt : Nat → Int32) (pl : Nat) (ra : Nat → Nat) (Rg : Nat → rg_R) (pn : Nat) (pa : Nat → Nat) (pf : Nat → Int32) (pk : Nat → Int32) (zc : Nat → Nat) (zz : Nat → Nat → zr) (ap : Nat) (aa : Nat → Nat) (dq : Nat → Nat) (av : Nat → Nat → Int32) (dv : Nat → ds_D) (nh : Nat) (ah : Nat → Nat) (vh : Nat → Nat → Int32) (hB : BN G X M bq l0 l1 l2 l3 tp tz td fl tt pl ra Rg pn pa pf pk zc zz ap aa dq av dv nh ah vh) (q w t : Int32) : mp_Met l X G A yX7_hold wsX7_hold rmX7_hold ([.ref bq, .int q, .int w, .int t] : List Value) M (fun r M1 => ((isAt q pl ∧ md_in w 0 99 ∧ md_in t 0 td ∧ nh ≠ 100) ∧ r = some (.int 1) ∧ (∃ ah2, BN G X M1 bq l0 l1 l2 l3 tp tz td fl tt pl ra Rg pn pa pf pk zc zz ap aa dq av dv (nh + 1) ah2 (va_up vh nh (hov0 q w t td))) ∧ (∀ k : mp_N, k.1 = 9 → M1 k = M k)) ∨ (¬ (isAt q pl ∧ md_in w 0 99 ∧ md_in t 0 td ∧ nh ≠ 100) ∧ r = some (.int 0) ∧ M1 = M)) 2 154 := by
  refine mp_ofW (cc := cX7_hold) (maxL := 4) (ret := (some .boolean)) (by decide) rfl (Nat.le_of_ble_eq_true rfl) ?_
  intro p e s m below meth c ls hx hb hr hts hown hlocks hnm hml hC hM hS hl
  have hl : lv_has ls 4 [(0, .ref bq), (1, .int q), (2, .int w), (3, .int t)] := hl
  have hown : s.vm.findClass RX7 = some m.cls := hown
  have hin_wsX70 : ∀ w ∈ wsX70, w ∈ wsX7_hold := fun _ h => List.mem_cons_of_mem _ (List.mem_append_left _ (List.mem_append_left _ (List.mem_append_right _ h)))
  have fl_40 := hts (.fieldLink RX7 40 "PlanningBench" "today" "I") (List.mem_of_getElem? (i := 1) rfl)
  have fl_22 := hts (.fieldLink RX7 22 "PlanningBench" "holdings" "Ljava/util/ArrayList;") (List.mem_of_getElem? (i := 2) rfl)
  have cl_271 := hts (.classLink RX7 271 RX2) (List.mem_of_getElem? (i := 3) rfl)
  have in_X2 := hts (.instantiable RX2 4) (List.mem_of_getElem? (i := 4) rfl)
  have mi_RX2 := hts (.initialized RX2) (List.mem_of_getElem? (i := 5) rfl)
  have hin_wsX20 : ∀ w ∈ wsX20, w ∈ wsX7_hold := fun _ h => List.mem_cons_of_mem _ (List.mem_append_left _ (List.mem_append_right _ h))
  have mn_X2_init := hts (.instanceMethod yX2_init) (List.mem_of_getElem? (i := 40) rfl)
  have ml_273 := hts (.methodLink RX7 273 yX2_init) (List.mem_of_getElem? (i := 39) rfl)
  have hb9 := hB.b
  refine lv_aload_n hx hb dX7_hold_0 rfl (lv_at hl 0 rfl) ?_
  refine lv_iload_n hx hb dX7_hold_1 rfl (lv_at hl 1 rfl) ?_
  by_cases hq : isAt q pl
  · skip
    obtain ⟨i, hi, ei⟩ := id hq
    have ni : q.toNatClampNeg = i := by rw [ei]; exact nI_clamp (by omega)
    refine mp_top (nI i) ei ?_
    refine mp_callr (va_runV (As := [.int (nI i)]) (rest := []) ⟨hx, hb, hml, hown, hts⟩ (c_X7_ringAt l X G A (M) bq l0 l1 l2 l3 tp tz td fl tt pl ra Rg pn pa pf pk zc zz ap aa dq av dv nh ah vh hB i hi) (cwV 1 hts gX7_hold_X7_ringAt rfl rfl rfl (by decide +kernel) ⟨Nat.le_of_ble_eq_true rfl, Nat.le_of_ble_eq_true rfl⟩) (mp_preV hC hS hM (mp_recv hC.1 hM hB.O (r := (RX7, TX7, 9)) rfl)) rfl rfl hl.1 rfl (lv_room (Nat.le_of_ble_eq_true rfl)) dX7_hold_2 ⟨Nat.le_of_ble_eq_true rfl, Nat.le_of_ble_eq_true rfl⟩) hS (fun H locs hM hS => ?_)
    obtain ⟨ax_i, ay_i, hR_i, hX_i, hY_i, hs_i⟩ := hB.R (i := i) (by omega)
    refine lv_ifnull hx hb dX7_hold_5 ?_
    refine lv_iload_n hx hb dX7_hold_8 rfl (lv_at hl 2 rfl) ?_
    refine lv_iconst (v := (0 : Int32)) hx hb dX7_hold_9 (by decide) ?_
    refine lv_bipush (v := (99 : Int32)) hx hb dX7_hold_10 (by decide) ?_
    refine mp_calli (va_runS (As := [.int w, .int (0 : Int32), .int (99 : Int32)]) (rest := []) ⟨hx, hb, hml, hown, hts⟩ (c_X7_isWithin l X G A (M) w (0 : Int32) (99 : Int32)) (va_cwS 3 hts gX7_hold_X7_isWithin rfl rfl rfl (by decide +kernel) ⟨Nat.le_of_ble_eq_true rfl, Nat.le_of_ble_eq_true rfl⟩) (mp_preS hC hS hM) rfl rfl hl.1 rfl (lv_room (Nat.le_of_ble_eq_true rfl)) dX7_hold_12 ⟨Nat.le_of_ble_eq_true rfl, Nat.le_of_ble_eq_true rfl⟩) hS (fun H locs hM hS => ?_)
    refine lv_if_eq (tgt := 42) hx hb dX7_hold_15 (by decide) (fun c1 => ?_) (fun c1 => ?_)
    · have c1 : (pB (md_in w (0 : Int32) (99 : Int32))) = false := bI_0.mp c1
      refine lv_iconst (v := (0 : Int32)) hx hb dX7_hold_42 (by decide) ?_
      exact mp_zret hx hb hr hlocks (Nat.le_of_ble_eq_true rfl) (Nat.le_of_ble_eq_true rfl) hM hS dX7_hold_43 (by first | rfl | exact bI_nar _) (Or.inr ⟨fun z => pB_not.mp c1 z.2.1, rfl, rfl⟩)
    · have c1 : (pB (md_in w (0 : Int32) (99 : Int32))) = true := bI_1.mp c1
      refine lv_iload_n hx hb dX7_hold_18 rfl (lv_at hl 3 rfl) ?_
      refine lv_iconst (v := (0 : Int32)) hx hb dX7_hold_19 (by decide) ?_
      refine lv_aload_n hx hb dX7_hold_20 rfl (lv_at hl 0 rfl) ?_
      refine va_get (D := G.1) (C := RX7) (T := TX7) (N := 9) (ci := 8) hx hb hts hin_wsX70 hown hC.1 (hM.one hB.O) 0 rfl rfl 7 (by decide) fl_40 (fun _ z => z) rfl dX7_hold_21 ?_
      refine mp_calli (va_runS (As := [.int t, .int (0 : Int32), .int td]) (rest := []) ⟨hx, hb, hml, hown, hts⟩ (c_X7_isWithin l X G A (M) t (0 : Int32) td) (va_cwS 3 hts gX7_hold_X7_isWithin rfl rfl rfl (by decide +kernel) ⟨Nat.le_of_ble_eq_true rfl, Nat.le_of_ble_eq_true rfl⟩) (mp_preS hC hS hM) rfl rfl hl.1 rfl (lv_room (Nat.le_of_ble_eq_true rfl)) dX7_hold_24 ⟨Nat.le_of_ble_eq_true rfl, Nat.le_of_ble_eq_true rfl⟩) hS (fun H locs hM hS => ?_)
      refine lv_if_eq (tgt := 42) hx hb dX7_hold_27 (by decide) (fun c3 => ?_) (fun c3 => ?_)
      · have c3 : (pB (md_in t (0 : Int32) td)) = false := bI_0.mp c3
        refine lv_iconst (v := (0 : Int32)) hx hb dX7_hold_42 (by decide) ?_
        exact mp_zret hx hb hr hlocks (Nat.le_of_ble_eq_true rfl) (Nat.le_of_ble_eq_true rfl) hM hS dX7_hold_43 (by first | rfl | exact bI_nar _) (Or.inr ⟨fun z => pB_not.mp c3 z.2.2.1, rfl, rfl⟩)
      · have c3 : (pB (md_in t (0 : Int32) td)) = true := bI_1.mp c3
        refine lv_aload_n hx hb dX7_hold_30 rfl (lv_at hl 0 rfl) ?_
        refine va_get (D := G.1) (C := RX7) (T := TX7) (N := 9) (ci := 8) hx hb hts hin_wsX70 hown hC.1 (hM.one hB.O) 0 rfl rfl 3 (by decide) fl_22 (fun _ z => z) rfl dX7_hold_31 ?_
        refine mp_calli (va_runV (As := []) (rest := []) ⟨hx, hb, hml, hown, hts⟩ (c_size l X G A (M) hB.L3) (cwV 0 hts gX7_hold_Jx4a65c_size_8abf5 rfl rfl rfl (by decide +kernel) ⟨Nat.le_of_ble_eq_true rfl, Nat.le_of_ble_eq_true rfl⟩) (mp_preV hC hS hM (mp_recvL hC.1 hM hB.L3)) rfl rfl hl.1 rfl (lv_room (Nat.le_of_ble_eq_true rfl)) dX7_hold_34 ⟨Nat.le_of_ble_eq_true rfl, Nat.le_of_ble_eq_true rfl⟩) hS (fun H locs hM hS => ?_)
        refine lv_bipush (v := (100 : Int32)) hx hb dX7_hold_37 (by decide) ?_
        refine lv_icmp_lt (tgt := 44) hx hb dX7_hold_39 (by decide) (fun c4 => ?_) (fun c4 => ?_)
        · have c4 := nn_lt (a := nh) (b := 100) (by omega) (by omega) c4
          refine lv_aload_n hx hb dX7_hold_44 rfl (lv_at hl 0 rfl) ?_
          refine va_get (D := G.1) (C := RX7) (T := TX7) (N := 9) (ci := 8) hx hb hts hin_wsX70 hown hC.1 (hM.one hB.O) 0 rfl rfl 3 (by decide) fl_22 (fun _ z => z) rfl dX7_hold_45 ?_
          refine mp_new (kn := (3, nh, 0)) (C := RX2) (T := TX2) (N := 4) (ci := 3) (fs := [.int (0 : Int32), .int (0 : Int32), .int (0 : Int32), .int (0 : Int32)]) hx hb hts hin_wsX20 tyX2 tyX2_ok hown cl_271 in_X2 mi_RX2 hC.1 hM hS hC.2.2.2 rfl (fun j hj => by rcases (show j = 0 ∨ j = 1 ∨ j = 2 ∨ j = 3 by omega) with rfl | rfl | rfl | rfl <;> rfl) (Nat.le_of_ble_eq_true rfl) (Nat.le_of_ble_eq_true rfl) dX7_hold_48 (hB.h.2.2.2 nh (Nat.le_refl nh)) (fun qa H hM hS => ?_)
          have hM : mp_P G.1 A (mp_set M (3, nh, 0) (qa, .inr (3, [.int (0 : Int32), .int (0 : Int32), .int (0 : Int32), .int (0 : Int32)]))) H := hM
          refine lv_dup hx hb dX7_hold_51 rfl ?_
          refine lv_iload_n hx hb dX7_hold_52 rfl (lv_at hl 1 rfl) ?_
          refine lv_iload_n hx hb dX7_hold_53 rfl (lv_at hl 2 rfl) ?_
          refine lv_iload_n hx hb dX7_hold_54 rfl (lv_at hl 3 rfl) ?_
          refine lv_aload_n hx hb dX7_hold_55 rfl (lv_at hl 0 rfl) ?_
          refine va_get (D := G.1) (C := RX7) (T := TX7) (N := 9) (ci := 8) hx hb hts hin_wsX70 hown hC.1 (hM.one ((mp_set_n _ _ _ (by simp)).trans hB.O)) 0 rfl rfl 7 (by decide) fl_40 (fun _ z => z) rfl dX7_hold_56 ?_
          refine mp_callv (va_runI (As := [.int q, .int w, .int t, .int td]) (rest := [.ref qa, .ref l3]) ⟨hx, hb, hml, hown, hts⟩ (c_X2_init l X G A (mp_set M (3, nh, 0) (qa, .inr (3, [.int (0 : Int32), .int (0 : Int32), .int (0 : Int32), .int (0 : Int32)]))) qa (3, nh, 0) q w t td (mp_set_s _ _ _)) (cwI 4 hts gX7_hold_X2_init rfl rfl rfl mi_RX2 ml_273 mn_X2_init rfl (by decide +kernel) ⟨Nat.le_of_ble_eq_true rfl, Nat.le_of_ble_eq_true rfl⟩) (mp_preS hC hS hM) rfl rfl hl.1 rfl (lv_room (Nat.le_of_ble_eq_true rfl)) dX7_hold_59 ⟨Nat.le_of_ble_eq_true rfl, Nat.le_of_ble_eq_true rfl⟩) hS (fun H locs hM hS => ?_)
          rw [mp_set_set] at hM
          have hM : mp_P G.1 A (mp_set M (3, nh, 0) (qa, .inr (3, hl_fs (hov0 q w t td)))) H := hM
          refine mp_call (va_runV (As := [.ref qa]) (rest := []) ⟨hx, hb, hml, hown, hts⟩ (c_add l X G A (mp_set M (3, nh, 0) (qa, .inr (3, hl_fs (hov0 q w t td)))) (hB.L3.congr (mp_set_n _ _ _ (by simp)) (mp_set_n _ _ _ (by simp))) (16, 0, 0) ((mp_set_n _ _ _ (by simp)).trans hB.n16) (by simp) (by omega) 3 (RX2, TX2, 4) rfl (List.mem_of_getElem? (i := 30) rfl) (fun i hi => ⟨(3, i, 0), _, (mp_set_n _ _ _ (by simp; omega)).trans (hB.H hi)⟩) (3, nh, 0) qa _ (mp_set_s _ _ _) (by decide)) (cwV 1 hts gX7_hold_Jx4a65c_add_9ea2d rfl rfl rfl (by decide +kernel) ⟨Nat.le_of_ble_eq_true rfl, Nat.le_of_ble_eq_true rfl⟩) (mp_preV hC hS hM (mp_recvL hC.1 hM (hB.L3.congr (mp_set_n _ _ _ (by simp)) (mp_set_n _ _ _ (by simp))))) rfl rfl hl.1 rfl (lv_room (Nat.le_of_ble_eq_true rfl)) dX7_hold_62 ⟨Nat.le_of_ble_eq_true rfl, Nat.le_of_ble_eq_true rfl⟩) hS (fun v M2 H locs hp hM hS => ?_)
          obtain ⟨rfl, x9, y9, hM2, hL2⟩ := hp
          have hF2 : ∀ k : mp_N, k.1 ≠ 23 → k.1 ≠ 24 → M2 k = (mp_set M (3, nh, 0) (qa, .inr (3, hl_fs (hov0 q w t td)))) k := fun k z1 z2 => by rw [hM2, mp_set_n _ _ _ (fun z => z1 (by rw [z])), mp_set_n _ _ _ (fun z => z2 (by rw [z]))]
          refine lv_pop hx hb dX7_hold_65 rfl ?_
          refine lv_iconst (v := (1 : Int32)) hx hb dX7_hold_66 (by decide) ?_
          exact mp_zret hx hb hr hlocks (Nat.le_of_ble_eq_true rfl) (Nat.le_of_ble_eq_true rfl) hM hS dX7_hold_67 (by first | rfl | exact bI_nar _) (Or.inl ⟨⟨hq, pB_iff.mp c1, pB_iff.mp c3, by omega⟩, rfl, ⟨_, hB.nhold (v := hov0 q w t td) (by omega) (pB_iff.mp c3).1 hL2 ((hF2 _ (by simp) (by simp)).trans (mp_set_s _ _ _)) (fun j h1 h2 => by rw [hF2 j (fun z => h1 (by rw [z]; simp)) (fun z => h1 (by rw [z]; simp)), mp_set_n _ _ _ (fun z => h2 (by rw [z]; simp) (by rw [z]))])⟩, fun k hk => by rw [hF2 k (by rw [hk]; decide) (by rw [hk]; decide), fr9 (by simp) k hk]⟩)
        · have c4 := nn_nlt (a := nh) (b := 100) (by omega) (by omega) c4
          refine lv_iconst (v := (0 : Int32)) hx hb dX7_hold_42 (by decide) ?_
          exact mp_zret hx hb hr hlocks (Nat.le_of_ble_eq_true rfl) (Nat.le_of_ble_eq_true rfl) hM hS dX7_hold_43 (by first | rfl | exact bI_nar _) (Or.inr ⟨fun z => z.2.2.2 (by omega), rfl, rfl⟩)
  · skip
    refine mp_calln (va_runV (As := [.int q]) (rest := []) ⟨hx, hb, hml, hown, hts⟩ (c_X7_ringAt_n l X G A (M) bq l0 l1 l2 l3 tp tz td fl tt pl ra Rg pn pa pf pk zc zz ap aa dq av dv nh ah vh hB q hq) (cwV 1 hts gX7_hold_X7_ringAt rfl rfl rfl (by decide +kernel) ⟨Nat.le_of_ble_eq_true rfl, Nat.le_of_ble_eq_true rfl⟩) (mp_preV hC hS hM (mp_recv hC.1 hM hB.O (r := (RX7, TX7, 9)) rfl)) rfl rfl hl.1 rfl (lv_room (Nat.le_of_ble_eq_true rfl)) dX7_hold_2 ⟨Nat.le_of_ble_eq_true rfl, Nat.le_of_ble_eq_true rfl⟩) hS (fun H locs hM hS => ?_)
    refine lv_ifnullN (tgt := 42) hx hb dX7_hold_5 (by decide) ?_
    refine lv_iconst (v := (0 : Int32)) hx hb dX7_hold_42 (by decide) ?_
    exact mp_zret hx hb hr hlocks (Nat.le_of_ble_eq_true rfl) (Nat.le_of_ble_eq_true rfl) hM hS dX7_hold_43 (by first | rfl | exact bI_nar _) (Or.inr ⟨fun z => hq z.1, rfl, rfl⟩)
