/-! ===== the bench: its cells by names ===== -/
def ds_fs (d : ds_D) : List Value := [.int d.1, .int d.2.1, .int d.2.2.1, .int d.2.2.2.1, .int d.2.2.2.2.1, .int d.2.2.2.2.2.1, .int d.2.2.2.2.2.2]
def hl_fs (v : Nat → Int32) : List Value := [.int (v 0), .int (v 1), .int (v 2), .int (v 3)]
def RgN (G : mp_G) (M : mp_M) (i a : Nat) (R : rg_R) : Prop := ∃ ax ay : Nat, M (4, i, 0) = some (a, .inr (6, [.ref ax, .ref ay, .int (nI R.2.2)])) ∧ M (5, i, 0) = some (ax, .inl (G.2.2.1, 8, .inl R.1)) ∧ M (6, i, 0) = some (ay, .inl (G.2.2.1, 8, .inl R.2.1)) ∧ R.2.2 ≤ 8
def PlN (G : mp_G) (X : mp_X) (M : mp_M) (p0 a : Nat) (fr kw : Int32) (zc : Nat) (zz : Nat → zr) : Prop := ∃ (zl : Nat) (za : Nat → Nat), M (11, p0, 0) = some (a, .inr (4, [.int fr, .int kw, .ref zl])) ∧ Lst G X M (12, p0, 0) (13, p0, 0) zl zc za ∧ zc ≤ 8 ∧ ∀ z, z < zc → M (7, p0, z) = some (za z, .inr (7, zn_fs (zrv (zz z))))
def BNr (G : mp_G) (X : mp_X) (M : mp_M) (l0 pl : Nat) (ra : Nat → Nat) (Rg : Nat → rg_R) : Prop := Lst G X M (17, 0, 0) (18, 0, 0) l0 pl ra ∧ pl ≤ 12 ∧ (∀ i, i ≤ pl → RgN G M i (ra i) (Rg i)) ∧ ∀ i, pl < i → M (4, i, 0) = none ∧ M (5, i, 0) = none ∧ M (6, i, 0) = none
def BNp (G : mp_G) (X : mp_X) (M : mp_M) (l1 pn : Nat) (pa : Nat → Nat) (pf pk : Nat → Int32) (zc : Nat → Nat) (zz : Nat → Nat → zr) : Prop := Lst G X M (19, 0, 0) (20, 0, 0) l1 pn pa ∧ pn ≤ 20 ∧ (∀ i, i < pn → PlN G X M i (pa i) (pf i) (pk i) (zc i) (zz i) ∧ md_in (pf i) 0 9999) ∧ ∀ k : mp_N, k.1 ∈ [7, 11, 12, 13] → pn ≤ k.2.1 → M k = none
def BNa (G : mp_G) (X : mp_X) (M : mp_M) (l2 ap : Nat) (aa dq : Nat → Nat) (av : Nat → Nat → Int32) (dv : Nat → ds_D) : Prop := Lst G X M (21, 0, 0) (22, 0, 0) l2 ap aa ∧ ap ≤ 40 ∧ (∀ i, i < ap → M (1, i, 0) = some (aa i, .inr (1, ap_fs (dq i) (av i))) ∧ M (2, i, 0) = some (dq i, .inr (2, ds_fs (dv i)))) ∧ ∀ i, ap ≤ i → M (1, i, 0) = none ∧ M (2, i, 0) = none
def BNh (G : mp_G) (X : mp_X) (M : mp_M) (l3 nh : Nat) (ah : Nat → Nat) (vh : Nat → Nat → Int32) : Prop := Lst G X M (23, 0, 0) (24, 0, 0) l3 nh ah ∧ nh ≤ 100 ∧ (∀ i, i < nh → M (3, i, 0) = some (ah i, .inr (3, hl_fs (vh i))) ∧ 0 ≤ vh i 2) ∧ ∀ i, nh ≤ i → M (3, i, 0) = none
def BN (G : mp_G) (X : mp_X) (M : mp_M) (bq : Nat) (l0 : Nat) (l1 : Nat) (l2 : Nat) (l3 : Nat) (tp : Nat) (tz : Nat) (td : Int32) (fl : Int32) (tt : Nat → Int32) (pl : Nat) (ra : Nat → Nat) (Rg : Nat → rg_R) (pn : Nat) (pa : Nat → Nat) (pf : Nat → Int32) (pk : Nat → Int32) (zc : Nat → Nat) (zz : Nat → Nat → zr) (ap : Nat) (aa : Nat → Nat) (dq : Nat → Nat) (av : Nat → Nat → Int32) (dv : Nat → ds_D) (nh : Nat) (ah : Nat → Nat) (vh : Nat → Nat → Int32) : Prop :=
  M (8, 0, 0) = some (bq, .inr (8, [.ref l0, .ref l1, .ref l2, .ref l3, .ref tp, .ref (ra pl), .int (nI tz), .int td, .int fl])) ∧ M (15, 0, 0) = some (tp, .inl (G.2.1, 600, .inl tt)) ∧ tz ≤ 600 ∧ M (14, 0, 0) = none ∧ M (16, 0, 0) = none ∧
  BNr G X M l0 pl ra Rg ∧ BNp G X M l1 pn pa pf pk zc zz ∧ BNa G X M l2 ap aa dq av dv ∧ BNh G X M l3 nh ah vh
theorem BN.O {G : mp_G} {X : mp_X} {M : mp_M} {bq : Nat} {l0 : Nat} {l1 : Nat} {l2 : Nat} {l3 : Nat} {tp : Nat} {tz : Nat} {td : Int32} {fl : Int32} {tt : Nat → Int32} {pl : Nat} {ra : Nat → Nat} {Rg : Nat → rg_R} {pn : Nat} {pa : Nat → Nat} {pf : Nat → Int32} {pk : Nat → Int32} {zc : Nat → Nat} {zz : Nat → Nat → zr} {ap : Nat} {aa : Nat → Nat} {dq : Nat → Nat} {av : Nat → Nat → Int32} {dv : Nat → ds_D} {nh : Nat} {ah : Nat → Nat} {vh : Nat → Nat → Int32} (h : BN G X M bq l0 l1 l2 l3 tp tz td fl tt pl ra Rg pn pa pf pk zc zz ap aa dq av dv nh ah vh) : M (8, 0, 0) = some (bq, .inr (8, [.ref l0, .ref l1, .ref l2, .ref l3, .ref tp, .ref (ra pl), .int (nI tz), .int td, .int fl])) := h.1
theorem BN.T {G : mp_G} {X : mp_X} {M : mp_M} {bq : Nat} {l0 : Nat} {l1 : Nat} {l2 : Nat} {l3 : Nat} {tp : Nat} {tz : Nat} {td : Int32} {fl : Int32} {tt : Nat → Int32} {pl : Nat} {ra : Nat → Nat} {Rg : Nat → rg_R} {pn : Nat} {pa : Nat → Nat} {pf : Nat → Int32} {pk : Nat → Int32} {zc : Nat → Nat} {zz : Nat → Nat → zr} {ap : Nat} {aa : Nat → Nat} {dq : Nat → Nat} {av : Nat → Nat → Int32} {dv : Nat → ds_D} {nh : Nat} {ah : Nat → Nat} {vh : Nat → Nat → Int32} (h : BN G X M bq l0 l1 l2 l3 tp tz td fl tt pl ra Rg pn pa pf pk zc zz ap aa dq av dv nh ah vh) : M (15, 0, 0) = some (tp, .inl (G.2.1, 600, .inl tt)) := h.2.1
theorem BN.tz9 {G : mp_G} {X : mp_X} {M : mp_M} {bq : Nat} {l0 : Nat} {l1 : Nat} {l2 : Nat} {l3 : Nat} {tp : Nat} {tz : Nat} {td : Int32} {fl : Int32} {tt : Nat → Int32} {pl : Nat} {ra : Nat → Nat} {Rg : Nat → rg_R} {pn : Nat} {pa : Nat → Nat} {pf : Nat → Int32} {pk : Nat → Int32} {zc : Nat → Nat} {zz : Nat → Nat → zr} {ap : Nat} {aa : Nat → Nat} {dq : Nat → Nat} {av : Nat → Nat → Int32} {dv : Nat → ds_D} {nh : Nat} {ah : Nat → Nat} {vh : Nat → Nat → Int32} (h : BN G X M bq l0 l1 l2 l3 tp tz td fl tt pl ra Rg pn pa pf pk zc zz ap aa dq av dv nh ah vh) : tz ≤ 600 := h.2.2.1
theorem BN.n14 {G : mp_G} {X : mp_X} {M : mp_M} {bq : Nat} {l0 : Nat} {l1 : Nat} {l2 : Nat} {l3 : Nat} {tp : Nat} {tz : Nat} {td : Int32} {fl : Int32} {tt : Nat → Int32} {pl : Nat} {ra : Nat → Nat} {Rg : Nat → rg_R} {pn : Nat} {pa : Nat → Nat} {pf : Nat → Int32} {pk : Nat → Int32} {zc : Nat → Nat} {zz : Nat → Nat → zr} {ap : Nat} {aa : Nat → Nat} {dq : Nat → Nat} {av : Nat → Nat → Int32} {dv : Nat → ds_D} {nh : Nat} {ah : Nat → Nat} {vh : Nat → Nat → Int32} (h : BN G X M bq l0 l1 l2 l3 tp tz td fl tt pl ra Rg pn pa pf pk zc zz ap aa dq av dv nh ah vh) : M (14, 0, 0) = none := h.2.2.2.1
theorem BN.n16 {G : mp_G} {X : mp_X} {M : mp_M} {bq : Nat} {l0 : Nat} {l1 : Nat} {l2 : Nat} {l3 : Nat} {tp : Nat} {tz : Nat} {td : Int32} {fl : Int32} {tt : Nat → Int32} {pl : Nat} {ra : Nat → Nat} {Rg : Nat → rg_R} {pn : Nat} {pa : Nat → Nat} {pf : Nat → Int32} {pk : Nat → Int32} {zc : Nat → Nat} {zz : Nat → Nat → zr} {ap : Nat} {aa : Nat → Nat} {dq : Nat → Nat} {av : Nat → Nat → Int32} {dv : Nat → ds_D} {nh : Nat} {ah : Nat → Nat} {vh : Nat → Nat → Int32} (h : BN G X M bq l0 l1 l2 l3 tp tz td fl tt pl ra Rg pn pa pf pk zc zz ap aa dq av dv nh ah vh) : M (16, 0, 0) = none := h.2.2.2.2.1
theorem BN.r {G : mp_G} {X : mp_X} {M : mp_M} {bq : Nat} {l0 : Nat} {l1 : Nat} {l2 : Nat} {l3 : Nat} {tp : Nat} {tz : Nat} {td : Int32} {fl : Int32} {tt : Nat → Int32} {pl : Nat} {ra : Nat → Nat} {Rg : Nat → rg_R} {pn : Nat} {pa : Nat → Nat} {pf : Nat → Int32} {pk : Nat → Int32} {zc : Nat → Nat} {zz : Nat → Nat → zr} {ap : Nat} {aa : Nat → Nat} {dq : Nat → Nat} {av : Nat → Nat → Int32} {dv : Nat → ds_D} {nh : Nat} {ah : Nat → Nat} {vh : Nat → Nat → Int32} (h : BN G X M bq l0 l1 l2 l3 tp tz td fl tt pl ra Rg pn pa pf pk zc zz ap aa dq av dv nh ah vh) : BNr G X M l0 pl ra Rg := h.2.2.2.2.2.1
theorem BN.p {G : mp_G} {X : mp_X} {M : mp_M} {bq : Nat} {l0 : Nat} {l1 : Nat} {l2 : Nat} {l3 : Nat} {tp : Nat} {tz : Nat} {td : Int32} {fl : Int32} {tt : Nat → Int32} {pl : Nat} {ra : Nat → Nat} {Rg : Nat → rg_R} {pn : Nat} {pa : Nat → Nat} {pf : Nat → Int32} {pk : Nat → Int32} {zc : Nat → Nat} {zz : Nat → Nat → zr} {ap : Nat} {aa : Nat → Nat} {dq : Nat → Nat} {av : Nat → Nat → Int32} {dv : Nat → ds_D} {nh : Nat} {ah : Nat → Nat} {vh : Nat → Nat → Int32} (h : BN G X M bq l0 l1 l2 l3 tp tz td fl tt pl ra Rg pn pa pf pk zc zz ap aa dq av dv nh ah vh) : BNp G X M l1 pn pa pf pk zc zz := h.2.2.2.2.2.2.1
theorem BN.a {G : mp_G} {X : mp_X} {M : mp_M} {bq : Nat} {l0 : Nat} {l1 : Nat} {l2 : Nat} {l3 : Nat} {tp : Nat} {tz : Nat} {td : Int32} {fl : Int32} {tt : Nat → Int32} {pl : Nat} {ra : Nat → Nat} {Rg : Nat → rg_R} {pn : Nat} {pa : Nat → Nat} {pf : Nat → Int32} {pk : Nat → Int32} {zc : Nat → Nat} {zz : Nat → Nat → zr} {ap : Nat} {aa : Nat → Nat} {dq : Nat → Nat} {av : Nat → Nat → Int32} {dv : Nat → ds_D} {nh : Nat} {ah : Nat → Nat} {vh : Nat → Nat → Int32} (h : BN G X M bq l0 l1 l2 l3 tp tz td fl tt pl ra Rg pn pa pf pk zc zz ap aa dq av dv nh ah vh) : BNa G X M l2 ap aa dq av dv := h.2.2.2.2.2.2.2.1
theorem BN.h {G : mp_G} {X : mp_X} {M : mp_M} {bq : Nat} {l0 : Nat} {l1 : Nat} {l2 : Nat} {l3 : Nat} {tp : Nat} {tz : Nat} {td : Int32} {fl : Int32} {tt : Nat → Int32} {pl : Nat} {ra : Nat → Nat} {Rg : Nat → rg_R} {pn : Nat} {pa : Nat → Nat} {pf : Nat → Int32} {pk : Nat → Int32} {zc : Nat → Nat} {zz : Nat → Nat → zr} {ap : Nat} {aa : Nat → Nat} {dq : Nat → Nat} {av : Nat → Nat → Int32} {dv : Nat → ds_D} {nh : Nat} {ah : Nat → Nat} {vh : Nat → Nat → Int32} (h : BN G X M bq l0 l1 l2 l3 tp tz td fl tt pl ra Rg pn pa pf pk zc zz ap aa dq av dv nh ah vh) : BNh G X M l3 nh ah vh := h.2.2.2.2.2.2.2.2
theorem BN.L0 {G : mp_G} {X : mp_X} {M : mp_M} {bq : Nat} {l0 : Nat} {l1 : Nat} {l2 : Nat} {l3 : Nat} {tp : Nat} {tz : Nat} {td : Int32} {fl : Int32} {tt : Nat → Int32} {pl : Nat} {ra : Nat → Nat} {Rg : Nat → rg_R} {pn : Nat} {pa : Nat → Nat} {pf : Nat → Int32} {pk : Nat → Int32} {zc : Nat → Nat} {zz : Nat → Nat → zr} {ap : Nat} {aa : Nat → Nat} {dq : Nat → Nat} {av : Nat → Nat → Int32} {dv : Nat → ds_D} {nh : Nat} {ah : Nat → Nat} {vh : Nat → Nat → Int32} (h : BN G X M bq l0 l1 l2 l3 tp tz td fl tt pl ra Rg pn pa pf pk zc zz ap aa dq av dv nh ah vh) : Lst G X M (17, 0, 0) (18, 0, 0) l0 pl ra := h.r.1
theorem BN.L1 {G : mp_G} {X : mp_X} {M : mp_M} {bq : Nat} {l0 : Nat} {l1 : Nat} {l2 : Nat} {l3 : Nat} {tp : Nat} {tz : Nat} {td : Int32} {fl : Int32} {tt : Nat → Int32} {pl : Nat} {ra : Nat → Nat} {Rg : Nat → rg_R} {pn : Nat} {pa : Nat → Nat} {pf : Nat → Int32} {pk : Nat → Int32} {zc : Nat → Nat} {zz : Nat → Nat → zr} {ap : Nat} {aa : Nat → Nat} {dq : Nat → Nat} {av : Nat → Nat → Int32} {dv : Nat → ds_D} {nh : Nat} {ah : Nat → Nat} {vh : Nat → Nat → Int32} (h : BN G X M bq l0 l1 l2 l3 tp tz td fl tt pl ra Rg pn pa pf pk zc zz ap aa dq av dv nh ah vh) : Lst G X M (19, 0, 0) (20, 0, 0) l1 pn pa := h.p.1
theorem BN.L2 {G : mp_G} {X : mp_X} {M : mp_M} {bq : Nat} {l0 : Nat} {l1 : Nat} {l2 : Nat} {l3 : Nat} {tp : Nat} {tz : Nat} {td : Int32} {fl : Int32} {tt : Nat → Int32} {pl : Nat} {ra : Nat → Nat} {Rg : Nat → rg_R} {pn : Nat} {pa : Nat → Nat} {pf : Nat → Int32} {pk : Nat → Int32} {zc : Nat → Nat} {zz : Nat → Nat → zr} {ap : Nat} {aa : Nat → Nat} {dq : Nat → Nat} {av : Nat → Nat → Int32} {dv : Nat → ds_D} {nh : Nat} {ah : Nat → Nat} {vh : Nat → Nat → Int32} (h : BN G X M bq l0 l1 l2 l3 tp tz td fl tt pl ra Rg pn pa pf pk zc zz ap aa dq av dv nh ah vh) : Lst G X M (21, 0, 0) (22, 0, 0) l2 ap aa := h.a.1
theorem BN.L3 {G : mp_G} {X : mp_X} {M : mp_M} {bq : Nat} {l0 : Nat} {l1 : Nat} {l2 : Nat} {l3 : Nat} {tp : Nat} {tz : Nat} {td : Int32} {fl : Int32} {tt : Nat → Int32} {pl : Nat} {ra : Nat → Nat} {Rg : Nat → rg_R} {pn : Nat} {pa : Nat → Nat} {pf : Nat → Int32} {pk : Nat → Int32} {zc : Nat → Nat} {zz : Nat → Nat → zr} {ap : Nat} {aa : Nat → Nat} {dq : Nat → Nat} {av : Nat → Nat → Int32} {dv : Nat → ds_D} {nh : Nat} {ah : Nat → Nat} {vh : Nat → Nat → Int32} (h : BN G X M bq l0 l1 l2 l3 tp tz td fl tt pl ra Rg pn pa pf pk zc zz ap aa dq av dv nh ah vh) : Lst G X M (23, 0, 0) (24, 0, 0) l3 nh ah := h.h.1
theorem BN.b {G : mp_G} {X : mp_X} {M : mp_M} {bq : Nat} {l0 : Nat} {l1 : Nat} {l2 : Nat} {l3 : Nat} {tp : Nat} {tz : Nat} {td : Int32} {fl : Int32} {tt : Nat → Int32} {pl : Nat} {ra : Nat → Nat} {Rg : Nat → rg_R} {pn : Nat} {pa : Nat → Nat} {pf : Nat → Int32} {pk : Nat → Int32} {zc : Nat → Nat} {zz : Nat → Nat → zr} {ap : Nat} {aa : Nat → Nat} {dq : Nat → Nat} {av : Nat → Nat → Int32} {dv : Nat → ds_D} {nh : Nat} {ah : Nat → Nat} {vh : Nat → Nat → Int32} (h : BN G X M bq l0 l1 l2 l3 tp tz td fl tt pl ra Rg pn pa pf pk zc zz ap aa dq av dv nh ah vh) : tz ≤ 600 ∧ pl ≤ 12 ∧ pn ≤ 20 ∧ ap ≤ 40 ∧ nh ≤ 100 := ⟨h.tz9, h.r.2.1, h.p.2.1, h.a.2.1, h.h.2.1⟩
theorem BN.R {G : mp_G} {X : mp_X} {M : mp_M} {bq : Nat} {l0 : Nat} {l1 : Nat} {l2 : Nat} {l3 : Nat} {tp : Nat} {tz : Nat} {td : Int32} {fl : Int32} {tt : Nat → Int32} {pl : Nat} {ra : Nat → Nat} {Rg : Nat → rg_R} {pn : Nat} {pa : Nat → Nat} {pf : Nat → Int32} {pk : Nat → Int32} {zc : Nat → Nat} {zz : Nat → Nat → zr} {ap : Nat} {aa : Nat → Nat} {dq : Nat → Nat} {av : Nat → Nat → Int32} {dv : Nat → ds_D} {nh : Nat} {ah : Nat → Nat} {vh : Nat → Nat → Int32} (h : BN G X M bq l0 l1 l2 l3 tp tz td fl tt pl ra Rg pn pa pf pk zc zz ap aa dq av dv nh ah vh) {i : Nat} (hi : i ≤ pl) : RgN G M i (ra i) (Rg i) := h.r.2.2.1 i hi
theorem RgN.ring {G : mp_G} {M : mp_M} {i a : Nat} {R : rg_R} (h : RgN G M i a R) : RingAt G M a R := by
  obtain ⟨ax, ay, h1, h2, h3, _⟩ := h
  exact ⟨_, _, _, ax, ay, h1, h2, h3⟩
theorem BN.Rt {G : mp_G} {X : mp_X} {M : mp_M} {bq : Nat} {l0 : Nat} {l1 : Nat} {l2 : Nat} {l3 : Nat} {tp : Nat} {tz : Nat} {td : Int32} {fl : Int32} {tt : Nat → Int32} {pl : Nat} {ra : Nat → Nat} {Rg : Nat → rg_R} {pn : Nat} {pa : Nat → Nat} {pf : Nat → Int32} {pk : Nat → Int32} {zc : Nat → Nat} {zz : Nat → Nat → zr} {ap : Nat} {aa : Nat → Nat} {dq : Nat → Nat} {av : Nat → Nat → Int32} {dv : Nat → ds_D} {nh : Nat} {ah : Nat → Nat} {vh : Nat → Nat → Int32} (h : BN G X M bq l0 l1 l2 l3 tp tz td fl tt pl ra Rg pn pa pf pk zc zz ap aa dq av dv nh ah vh) {i : Nat} (hi : i ≤ pl) : RingAt G M (ra i) (Rg i) := (h.R hi).ring
theorem BN.Rs {G : mp_G} {X : mp_X} {M : mp_M} {bq : Nat} {l0 : Nat} {l1 : Nat} {l2 : Nat} {l3 : Nat} {tp : Nat} {tz : Nat} {td : Int32} {fl : Int32} {tt : Nat → Int32} {pl : Nat} {ra : Nat → Nat} {Rg : Nat → rg_R} {pn : Nat} {pa : Nat → Nat} {pf : Nat → Int32} {pk : Nat → Int32} {zc : Nat → Nat} {zz : Nat → Nat → zr} {ap : Nat} {aa : Nat → Nat} {dq : Nat → Nat} {av : Nat → Nat → Int32} {dv : Nat → ds_D} {nh : Nat} {ah : Nat → Nat} {vh : Nat → Nat → Int32} (h : BN G X M bq l0 l1 l2 l3 tp tz td fl tt pl ra Rg pn pa pf pk zc zz ap aa dq av dv nh ah vh) {i : Nat} (hi : i ≤ pl) : (Rg i).2.2 ≤ 8 := by
  obtain ⟨ax, ay, _, _, _, h4⟩ := h.R hi
  exact h4
theorem BN.P {G : mp_G} {X : mp_X} {M : mp_M} {bq : Nat} {l0 : Nat} {l1 : Nat} {l2 : Nat} {l3 : Nat} {tp : Nat} {tz : Nat} {td : Int32} {fl : Int32} {tt : Nat → Int32} {pl : Nat} {ra : Nat → Nat} {Rg : Nat → rg_R} {pn : Nat} {pa : Nat → Nat} {pf : Nat → Int32} {pk : Nat → Int32} {zc : Nat → Nat} {zz : Nat → Nat → zr} {ap : Nat} {aa : Nat → Nat} {dq : Nat → Nat} {av : Nat → Nat → Int32} {dv : Nat → ds_D} {nh : Nat} {ah : Nat → Nat} {vh : Nat → Nat → Int32} (h : BN G X M bq l0 l1 l2 l3 tp tz td fl tt pl ra Rg pn pa pf pk zc zz ap aa dq av dv nh ah vh) {i : Nat} (hi : i < pn) : PlN G X M i (pa i) (pf i) (pk i) (zc i) (zz i) := (h.p.2.2.1 i hi).1
theorem BN.pf0 {G : mp_G} {X : mp_X} {M : mp_M} {bq : Nat} {l0 : Nat} {l1 : Nat} {l2 : Nat} {l3 : Nat} {tp : Nat} {tz : Nat} {td : Int32} {fl : Int32} {tt : Nat → Int32} {pl : Nat} {ra : Nat → Nat} {Rg : Nat → rg_R} {pn : Nat} {pa : Nat → Nat} {pf : Nat → Int32} {pk : Nat → Int32} {zc : Nat → Nat} {zz : Nat → Nat → zr} {ap : Nat} {aa : Nat → Nat} {dq : Nat → Nat} {av : Nat → Nat → Int32} {dv : Nat → ds_D} {nh : Nat} {ah : Nat → Nat} {vh : Nat → Nat → Int32} (h : BN G X M bq l0 l1 l2 l3 tp tz td fl tt pl ra Rg pn pa pf pk zc zz ap aa dq av dv nh ah vh) {i : Nat} (hi : i < pn) : md_in (pf i) 0 9999 := (h.p.2.2.1 i hi).2
theorem BN.A {G : mp_G} {X : mp_X} {M : mp_M} {bq : Nat} {l0 : Nat} {l1 : Nat} {l2 : Nat} {l3 : Nat} {tp : Nat} {tz : Nat} {td : Int32} {fl : Int32} {tt : Nat → Int32} {pl : Nat} {ra : Nat → Nat} {Rg : Nat → rg_R} {pn : Nat} {pa : Nat → Nat} {pf : Nat → Int32} {pk : Nat → Int32} {zc : Nat → Nat} {zz : Nat → Nat → zr} {ap : Nat} {aa : Nat → Nat} {dq : Nat → Nat} {av : Nat → Nat → Int32} {dv : Nat → ds_D} {nh : Nat} {ah : Nat → Nat} {vh : Nat → Nat → Int32} (h : BN G X M bq l0 l1 l2 l3 tp tz td fl tt pl ra Rg pn pa pf pk zc zz ap aa dq av dv nh ah vh) {i : Nat} (hi : i < ap) : M (1, i, 0) = some (aa i, .inr (1, ap_fs (dq i) (av i))) := (h.a.2.2.1 i hi).1
theorem BN.D {G : mp_G} {X : mp_X} {M : mp_M} {bq : Nat} {l0 : Nat} {l1 : Nat} {l2 : Nat} {l3 : Nat} {tp : Nat} {tz : Nat} {td : Int32} {fl : Int32} {tt : Nat → Int32} {pl : Nat} {ra : Nat → Nat} {Rg : Nat → rg_R} {pn : Nat} {pa : Nat → Nat} {pf : Nat → Int32} {pk : Nat → Int32} {zc : Nat → Nat} {zz : Nat → Nat → zr} {ap : Nat} {aa : Nat → Nat} {dq : Nat → Nat} {av : Nat → Nat → Int32} {dv : Nat → ds_D} {nh : Nat} {ah : Nat → Nat} {vh : Nat → Nat → Int32} (h : BN G X M bq l0 l1 l2 l3 tp tz td fl tt pl ra Rg pn pa pf pk zc zz ap aa dq av dv nh ah vh) {i : Nat} (hi : i < ap) : M (2, i, 0) = some (dq i, .inr (2, ds_fs (dv i))) := (h.a.2.2.1 i hi).2
theorem BN.H {G : mp_G} {X : mp_X} {M : mp_M} {bq : Nat} {l0 : Nat} {l1 : Nat} {l2 : Nat} {l3 : Nat} {tp : Nat} {tz : Nat} {td : Int32} {fl : Int32} {tt : Nat → Int32} {pl : Nat} {ra : Nat → Nat} {Rg : Nat → rg_R} {pn : Nat} {pa : Nat → Nat} {pf : Nat → Int32} {pk : Nat → Int32} {zc : Nat → Nat} {zz : Nat → Nat → zr} {ap : Nat} {aa : Nat → Nat} {dq : Nat → Nat} {av : Nat → Nat → Int32} {dv : Nat → ds_D} {nh : Nat} {ah : Nat → Nat} {vh : Nat → Nat → Int32} (h : BN G X M bq l0 l1 l2 l3 tp tz td fl tt pl ra Rg pn pa pf pk zc zz ap aa dq av dv nh ah vh) {i : Nat} (hi : i < nh) : M (3, i, 0) = some (ah i, .inr (3, hl_fs (vh i))) := (h.h.2.2.1 i hi).1
theorem BN.H0 {G : mp_G} {X : mp_X} {M : mp_M} {bq : Nat} {l0 : Nat} {l1 : Nat} {l2 : Nat} {l3 : Nat} {tp : Nat} {tz : Nat} {td : Int32} {fl : Int32} {tt : Nat → Int32} {pl : Nat} {ra : Nat → Nat} {Rg : Nat → rg_R} {pn : Nat} {pa : Nat → Nat} {pf : Nat → Int32} {pk : Nat → Int32} {zc : Nat → Nat} {zz : Nat → Nat → zr} {ap : Nat} {aa : Nat → Nat} {dq : Nat → Nat} {av : Nat → Nat → Int32} {dv : Nat → ds_D} {nh : Nat} {ah : Nat → Nat} {vh : Nat → Nat → Int32} (h : BN G X M bq l0 l1 l2 l3 tp tz td fl tt pl ra Rg pn pa pf pk zc zz ap aa dq av dv nh ah vh) {i : Nat} (hi : i < nh) : 0 ≤ vh i 2 := (h.h.2.2.1 i hi).2
theorem cg_ne {M : mp_M} {k : mp_N} {x : Nat × va_E} {L : List Nat} (hk : k.1 ∉ L) : ∀ j : mp_N, j.1 ∈ L → mp_set M k x j = M j := fun j hj => mp_set_n _ _ _ (fun z => hk (by rw [← z]; exact hj))
theorem RgN.congr {G : mp_G} {M M1 : mp_M} {i a : Nat} {R : rg_R} (h : RgN G M i a R) (e : ∀ j : mp_N, j.1 ∈ [4, 5, 6, 17, 18] → j.2.1 = i → M1 j = M j) : RgN G M1 i a R := by
  obtain ⟨ax, ay, h1, h2, h3, h4⟩ := h
  exact ⟨ax, ay, (e _ (by simp) rfl).trans h1, (e _ (by simp) rfl).trans h2, (e _ (by simp) rfl).trans h3, h4⟩
theorem PlN.congr {G : mp_G} {X : mp_X} {M M1 : mp_M} {p0 a zc : Nat} {fr kw : Int32} {zz : Nat → zr} (h : PlN G X M p0 a fr kw zc zz) (e : ∀ j : mp_N, j.1 ∈ [7, 11, 12, 13] → j.2.1 = p0 → M1 j = M j) : PlN G X M1 p0 a fr kw zc zz := by
  obtain ⟨zl, za, h1, h2, h3, h4⟩ := h
  exact ⟨zl, za, (e _ (by simp) rfl).trans h1, h2.congr (e _ (by simp) rfl) (e _ (by simp) rfl), h3, fun z hz => (e _ (by simp) rfl).trans (h4 z hz)⟩
theorem BNr.congr {G : mp_G} {X : mp_X} {M M1 : mp_M} {l0 pl : Nat} {ra : Nat → Nat} {Rg : Nat → rg_R} (h : BNr G X M l0 pl ra Rg) (e : ∀ j : mp_N, j.1 ∈ [4, 5, 6, 17, 18] → M1 j = M j) : BNr G X M1 l0 pl ra Rg :=
  ⟨h.1.congr (e _ (by simp)) (e _ (by simp)), h.2.1, fun i hi => (h.2.2.1 i hi).congr (fun j hj _ => e j hj), fun i hi => ⟨(e _ (by simp)).trans (h.2.2.2 i hi).1, (e _ (by simp)).trans (h.2.2.2 i hi).2.1, (e _ (by simp)).trans (h.2.2.2 i hi).2.2⟩⟩
theorem BNp.congr {G : mp_G} {X : mp_X} {M M1 : mp_M} {l1 pn : Nat} {pa : Nat → Nat} {pf pk : Nat → Int32} {zc : Nat → Nat} {zz : Nat → Nat → zr} (h : BNp G X M l1 pn pa pf pk zc zz) (e : ∀ j : mp_N, j.1 ∈ [7, 11, 12, 13, 19, 20] → M1 j = M j) : BNp G X M1 l1 pn pa pf pk zc zz := by
  have e2 : ∀ j : mp_N, j.1 ∈ [7, 11, 12, 13] → M1 j = M j := fun j hj => e j (by simp at hj ⊢; omega)
  exact ⟨h.1.congr (e _ (by simp)) (e _ (by simp)), h.2.1, fun i hi => ⟨(h.2.2.1 i hi).1.congr (fun j hj _ => e2 j hj), (h.2.2.1 i hi).2⟩, fun k hk hk2 => (e2 k hk).trans (h.2.2.2 k hk hk2)⟩
theorem BNa.congr {G : mp_G} {X : mp_X} {M M1 : mp_M} {l2 ap : Nat} {aa dq : Nat → Nat} {av : Nat → Nat → Int32} {dv : Nat → ds_D} (h : BNa G X M l2 ap aa dq av dv) (e : ∀ j : mp_N, j.1 ∈ [1, 2, 21, 22] → M1 j = M j) : BNa G X M1 l2 ap aa dq av dv :=
  ⟨h.1.congr (e _ (by simp)) (e _ (by simp)), h.2.1, fun i hi => ⟨(e _ (by simp)).trans (h.2.2.1 i hi).1, (e _ (by simp)).trans (h.2.2.1 i hi).2⟩, fun i hi => ⟨(e _ (by simp)).trans (h.2.2.2 i hi).1, (e _ (by simp)).trans (h.2.2.2 i hi).2⟩⟩
theorem BNh.congr {G : mp_G} {X : mp_X} {M M1 : mp_M} {l3 nh : Nat} {ah : Nat → Nat} {vh : Nat → Nat → Int32} (h : BNh G X M l3 nh ah vh) (e : ∀ j : mp_N, j.1 ∈ [3, 23, 24] → M1 j = M j) : BNh G X M1 l3 nh ah vh :=
  ⟨h.1.congr (e _ (by simp)) (e _ (by simp)), h.2.1, fun i hi => ⟨(e _ (by simp)).trans (h.2.2.1 i hi).1, (h.2.2.1 i hi).2⟩, fun i hi => (e _ (by simp)).trans (h.2.2.2 i hi)⟩
theorem BN.congr {G : mp_G} {X : mp_X} {M : mp_M} {M1 : mp_M} {bq : Nat} {l0 : Nat} {l1 : Nat} {l2 : Nat} {l3 : Nat} {tp : Nat} {tz : Nat} {td : Int32} {fl : Int32} {tt : Nat → Int32} {pl : Nat} {ra : Nat → Nat} {Rg : Nat → rg_R} {pn : Nat} {pa : Nat → Nat} {pf : Nat → Int32} {pk : Nat → Int32} {zc : Nat → Nat} {zz : Nat → Nat → zr} {ap : Nat} {aa : Nat → Nat} {dq : Nat → Nat} {av : Nat → Nat → Int32} {dv : Nat → ds_D} {nh : Nat} {ah : Nat → Nat} {vh : Nat → Nat → Int32} (h : BN G X M bq l0 l1 l2 l3 tp tz td fl tt pl ra Rg pn pa pf pk zc zz ap aa dq av dv nh ah vh) (e : ∀ j : mp_N, j.1 ≠ 9 → j.1 ≤ 24 → M1 j = M j) : BN G X M1 bq l0 l1 l2 l3 tp tz td fl tt pl ra Rg pn pa pf pk zc zz ap aa dq av dv nh ah vh :=
  ⟨(e _ (by simp) (by simp)).trans h.O, (e _ (by simp) (by simp)).trans h.T, h.tz9, (e _ (by simp) (by simp)).trans h.n14, (e _ (by simp) (by simp)).trans h.n16, h.r.congr (fun j hj => e j (by simp at hj; omega) (by simp at hj; omega)), h.p.congr (fun j hj => e j (by simp at hj; omega) (by simp at hj; omega)), h.a.congr (fun j hj => e j (by simp at hj; omega) (by simp at hj; omega)), h.h.congr (fun j hj => e j (by simp at hj; omega) (by simp at hj; omega))⟩
/-- the object's numbers change -/
theorem BN.obj {G : mp_G} {X : mp_X} {M : mp_M} {bq : Nat} {l0 : Nat} {l1 : Nat} {l2 : Nat} {l3 : Nat} {tp : Nat} {tz : Nat} {td : Int32} {fl : Int32} {tt : Nat → Int32} {pl : Nat} {ra : Nat → Nat} {Rg : Nat → rg_R} {pn : Nat} {pa : Nat → Nat} {pf : Nat → Int32} {pk : Nat → Int32} {zc : Nat → Nat} {zz : Nat → Nat → zr} {ap : Nat} {aa : Nat → Nat} {dq : Nat → Nat} {av : Nat → Nat → Int32} {dv : Nat → ds_D} {nh : Nat} {ah : Nat → Nat} {vh : Nat → Nat → Int32} (h : BN G X M bq l0 l1 l2 l3 tp tz td fl tt pl ra Rg pn pa pf pk zc zz ap aa dq av dv nh ah vh) (tz' : Nat) (td' fl' : Int32) (hz : tz' ≤ 600) : BN G X (mp_set M (8, 0, 0) (bq, .inr (8, [.ref l0, .ref l1, .ref l2, .ref l3, .ref tp, .ref (ra pl), .int (nI tz'), .int td', .int fl']))) bq l0 l1 l2 l3 tp tz' td' fl' tt pl ra Rg pn pa pf pk zc zz ap aa dq av dv nh ah vh :=
  ⟨mp_set_s _ _ _, (mp_set_n _ _ _ (by simp)).trans h.T, hz, (mp_set_n _ _ _ (by simp)).trans h.n14, (mp_set_n _ _ _ (by simp)).trans h.n16, h.r.congr (cg_ne (by simp)), h.p.congr (cg_ne (by simp)), h.a.congr (cg_ne (by simp)), h.h.congr (cg_ne (by simp))⟩
theorem BN.tape {G : mp_G} {X : mp_X} {M : mp_M} {bq : Nat} {l0 : Nat} {l1 : Nat} {l2 : Nat} {l3 : Nat} {tp : Nat} {tz : Nat} {td : Int32} {fl : Int32} {tt : Nat → Int32} {pl : Nat} {ra : Nat → Nat} {Rg : Nat → rg_R} {pn : Nat} {pa : Nat → Nat} {pf : Nat → Int32} {pk : Nat → Int32} {zc : Nat → Nat} {zz : Nat → Nat → zr} {ap : Nat} {aa : Nat → Nat} {dq : Nat → Nat} {av : Nat → Nat → Int32} {dv : Nat → ds_D} {nh : Nat} {ah : Nat → Nat} {vh : Nat → Nat → Int32} (h : BN G X M bq l0 l1 l2 l3 tp tz td fl tt pl ra Rg pn pa pf pk zc zz ap aa dq av dv nh ah vh) (tt' : Nat → Int32) : BN G X (mp_set M (15, 0, 0) (tp, .inl (G.2.1, 600, .inl tt'))) bq l0 l1 l2 l3 tp tz td fl tt' pl ra Rg pn pa pf pk zc zz ap aa dq av dv nh ah vh :=
  ⟨(mp_set_n _ _ _ (by simp)).trans h.O, mp_set_s _ _ _, h.tz9, (mp_set_n _ _ _ (by simp)).trans h.n14, (mp_set_n _ _ _ (by simp)).trans h.n16, h.r.congr (cg_ne (by simp)), h.p.congr (cg_ne (by simp)), h.a.congr (cg_ne (by simp)), h.h.congr (cg_ne (by simp))⟩
/-- an application's numbers change -/
theorem BN.app {G : mp_G} {X : mp_X} {M : mp_M} {bq : Nat} {l0 : Nat} {l1 : Nat} {l2 : Nat} {l3 : Nat} {tp : Nat} {tz : Nat} {td : Int32} {fl : Int32} {tt : Nat → Int32} {pl : Nat} {ra : Nat → Nat} {Rg : Nat → rg_R} {pn : Nat} {pa : Nat → Nat} {pf : Nat → Int32} {pk : Nat → Int32} {zc : Nat → Nat} {zz : Nat → Nat → zr} {ap : Nat} {aa : Nat → Nat} {dq : Nat → Nat} {av : Nat → Nat → Int32} {dv : Nat → ds_D} {nh : Nat} {ah : Nat → Nat} {vh : Nat → Nat → Int32} (h : BN G X M bq l0 l1 l2 l3 tp tz td fl tt pl ra Rg pn pa pf pk zc zz ap aa dq av dv nh ah vh) {i : Nat} (hi : i < ap) (v : Nat → Int32) : BN G X (mp_set M (1, i, 0) (aa i, .inr (1, ap_fs (dq i) v))) bq l0 l1 l2 l3 tp tz td fl tt pl ra Rg pn pa pf pk zc zz ap aa dq (va_up av i v) dv nh ah vh := by
  refine ⟨(mp_set_n _ _ _ (by simp)).trans h.O, (mp_set_n _ _ _ (by simp)).trans h.T, h.tz9, (mp_set_n _ _ _ (by simp)).trans h.n14, (mp_set_n _ _ _ (by simp)).trans h.n16, h.r.congr (cg_ne (by simp)), h.p.congr (cg_ne (by simp)), ?_, h.h.congr (cg_ne (by simp))⟩
  refine ⟨h.a.1.congr (mp_set_n _ _ _ (by simp)) (mp_set_n _ _ _ (by simp)), h.a.2.1, fun j hj => ?_, fun j hj => ?_⟩
  · by_cases e : j = i
    · subst e
      rw [mp_set_s, va_up_self]
      exact ⟨rfl, (mp_set_n _ _ _ (by simp)).trans (h.D hj)⟩
    · rw [va_up_ne _ _ e]
      exact ⟨(mp_set_n _ _ _ (by simp [e])).trans (h.A hj), (mp_set_n _ _ _ (by simp)).trans (h.D hj)⟩
  · exact ⟨(mp_set_n _ _ _ (by simp; omega)).trans (h.a.2.2.2 j hj).1, (mp_set_n _ _ _ (by simp)).trans (h.a.2.2.2 j hj).2⟩
/-- the draft changes -/
theorem BN.draft {G : mp_G} {X : mp_X} {M : mp_M} {M1 : mp_M} {bq : Nat} {l0 : Nat} {l1 : Nat} {l2 : Nat} {l3 : Nat} {tp : Nat} {tz : Nat} {td : Int32} {fl : Int32} {tt : Nat → Int32} {pl : Nat} {ra : Nat → Nat} {Rg : Nat → rg_R} {pn : Nat} {pa : Nat → Nat} {pf : Nat → Int32} {pk : Nat → Int32} {zc : Nat → Nat} {zz : Nat → Nat → zr} {ap : Nat} {aa : Nat → Nat} {dq : Nat → Nat} {av : Nat → Nat → Int32} {dv : Nat → ds_D} {nh : Nat} {ah : Nat → Nat} {vh : Nat → Nat → Int32} (h : BN G X M bq l0 l1 l2 l3 tp tz td fl tt pl ra Rg pn pa pf pk zc zz ap aa dq av dv nh ah vh) (R : rg_R) (hR : RgN G M1 pl (ra pl) R) (e : ∀ j : mp_N, (j.1 ∈ [4, 5, 6] → j.2.1 ≠ pl) → M1 j = M j) : BN G X M1 bq l0 l1 l2 l3 tp tz td fl tt pl ra (va_up Rg pl R) pn pa pf pk zc zz ap aa dq av dv nh ah vh := by
  have e2 : ∀ j : mp_N, j.1 ∉ [4, 5, 6] → M1 j = M j := fun j hj => e j (fun z => absurd z hj)
  refine ⟨(e2 _ (by simp)).trans h.O, (e2 _ (by simp)).trans h.T, h.tz9, (e2 _ (by simp)).trans h.n14, (e2 _ (by simp)).trans h.n16, ?_, h.p.congr (fun j hj => e2 j (by simp at hj ⊢; omega)), h.a.congr (fun j hj => e2 j (by simp at hj ⊢; omega)), h.h.congr (fun j hj => e2 j (by simp at hj ⊢; omega))⟩
  refine ⟨h.r.1.congr (e2 _ (by simp)) (e2 _ (by simp)), h.r.2.1, fun i hi => ?_, fun i hi => ?_⟩
  · by_cases ei : i = pl
    · subst ei
      rw [va_up_self]
      exact hR
    · rw [va_up_ne _ _ ei]
      exact (h.R hi).congr (fun j _ hj2 => e j (fun _ => by rw [hj2]; exact ei))
  · obtain ⟨a, b, c0⟩ := h.r.2.2.2 i hi
    exact ⟨(e _ (fun _ => by show i ≠ pl; omega)).trans a, (e _ (fun _ => by show i ≠ pl; omega)).trans b, (e _ (fun _ => by show i ≠ pl; omega)).trans c0⟩
section CNL
variable {p : Program} {l : Launch} {e : Env} {R : Room} {s : State} {m : MethodId} {args : Array Value} {below : List Frame} {meth : Method} {c : Code} {H : Heap} {locs : List Loc} {cells slots : Nat} {Q : State → Prop}
theorem mp_calln {A : Nat → Prop} {D : va_G} {M0 : mp_M} {pc mc ms : Nat} {ls : Array Slot} {rest st0 : List Value} {a : Array Value} (hr : va_Run p l e R s m args below meth c H locs cells slots mc ms (F0 m pc ls st0) rest (mp_Q D A (fun v M1 => v = some .null ∧ M1 = M0) a) A) (hS : va_S A s.heap H locs)
    (kk : ∀ (H1 : Heap) (locs1 : List Loc), mp_P D A M0 H1 → va_S A s.heap H1 locs1 → W p l e R s m args below meth c H1 locs1 (cells + mc) (slots + ms) Q (F0 m (pc + 3) ls (.null :: rest))) : W p l e R s m args below meth c H locs cells slots Q (F0 m pc ls st0) := mp_callD hr hS kk
end CNL
theorem fr9 {M : mp_M} {k : mp_N} {x : Nat × va_E} (h : k.1 ≠ 9) : ∀ j : mp_N, j.1 = 9 → mp_set M k x j = M j := fun j hj => mp_set_n _ _ _ (fun z => h (by rw [← z]; exact hj))
noncomputable def cs_ring (pl : Nat) (Rg : Nat → rg_R) (q w : Int32) : Int32 := if pB (isAt q pl) then (if w = 0 then nI (Rg q.toNatClampNeg).2.2 else if w = 1 then rg_sum (rg_ar2 (Rg q.toNatClampNeg)) (Rg q.toNatClampNeg).2.2 else if w < 2 then -1 else rg_co (Rg q.toNatClampNeg) (w - 2)) else -1
def cs_near (pl : Nat) (Rg : Nat → rg_R) (q1 q2 d : Int32) : Prop := isAt q1 pl ∧ isAt q2 pl ∧ q1 ≠ q2 ∧ md_in d 0 100 ∧ (cdW (Rg q1.toNatClampNeg) (Rg q2.toNatClampNeg) d ∨ cdW (Rg q2.toNatClampNeg) (Rg q1.toNatClampNeg) d)
def cs_ov (pl : Nat) (Rg : Nat → rg_R) : Prop := ∃ i, i < pl ∧ ¬ rg_parts (Rg pl) (Rg i) ∧ ¬ rg_parts (Rg i) (Rg pl)
def bfr (fr : Nat → Int32) (o : Option Nat) : Int32 := match o with
  | none => -1
  | some j => fr j
def cs_plP (pf pk : Nat → Int32) (d k : Int32) (i : Nat) : Prop := pf i ≤ d ∧ pk i ≤ k
theorem bf_up {P : Nat → Prop} {fr : Nat → Int32} {i : Nat} (h1 : P i) (h2 : ¬ fr i < bfr fr (bst P fr i)) : bst P fr (i + 1) = some i := bst_yes h1 (fun j hj => by rw [hj] at h2; exact i_nlt.mp h2)
theorem bf_no {P : Nat → Prop} {fr : Nat → Int32} {i : Nat} (h0 : 0 ≤ fr i) (h2 : fr i < bfr fr (bst P fr i)) : bst P fr (i + 1) = bst P fr i := by
  refine bst_no (fun z => ?_)
  cases hj : bst P fr i with
  | none =>
    rw [hj] at h2
    have a := (i_lt _ _).mp h2
    have b := (i_le _ _).mp h0
    have e1 : (0 : Int32).toInt = 0 := rfl
    have e2 : (bfr fr none).toInt = -1 := rfl
    omega
  | some j =>
    rw [hj] at h2
    exact absurd (z.2 j hj) (i_nle.mpr h2)
def cs_znP (zz : Nat → zr) (q : Int32) (z : Nat) : Prop := ¬ zrv (zz z) 0 &&& btO q = 0
noncomputable def cs_zone (pl pn : Nat) (zc : Nat → Nat) (zz : Nat → Nat → zr) (q1 q2 w : Int32) : Int32 := if pB (isAt q1 pn ∧ isAt q2 pl) then (match fst (cs_znP (zz q1.toNatClampNeg) q2) (zc q1.toNatClampNeg) with
    | none => -1
    | some z => if w = 0 then nI z else znT (zrv (zz q1.toNatClampNeg z)) w) else -1
noncomputable def cs_zo (pn : Nat) (pf pk : Nat → Int32) (zc : Nat → Nat) (zz : Nat → Nat → zr) (q d k : Int32) : Option (Nat × Nat) := (bst (cs_plP pf pk d k) pf pn).bind (fun i => (fst (cs_znP (zz i) q) (zc i)).map (fun z => (i, z)))
theorem isAt_m1 {k : Nat} (hk : k < 2 ^ 31) : ¬ isAt (-1) k := fun ⟨j, hj, e⟩ => nI_nm1 (by omega) e.symm
noncomputable def cs_told (ap : Nat) (av : Nat → Nat → Int32) (dv : Nat → ds_D) (td q w : Int32) : Int32 := if pB (isAt q ap) then aT (av q.toNatClampNeg) (dv q.toNatClampNeg).1 w td else -1
def cs_stands (ap : Nat) (av : Nat → Nat → Int32) (q d k : Int32) : Prop := isAt q ap ∧ md_in d 0 9999 ∧ md_in k 0 9999 ∧ aS (av q.toNatClampNeg) d k
def ds_meet (a b : ds_D) : Prop := a.2.1 < b.2.2.2.1 ∧ b.2.1 < a.2.2.2.1 ∧ a.2.2.1 < b.2.2.2.2.1 ∧ b.2.2.1 < a.2.2.2.2.1
def cs_clP (av : Nat → Nat → Int32) (dv : Nat → ds_D) (td : Int32) (b i : Nat) : Prop := i ≠ b ∧ aS (av i) td td ∧ ds_meet (dv b) (dv i)
noncomputable def cs_clash (ap : Nat) (av : Nat → Nat → Int32) (dv : Nat → ds_D) (td q : Int32) : Int32 := if pB (isAt q ap) then cntI (cs_clP av dv td q.toNatClampNeg) ap else -1
noncomputable def cs_count (tz pl pn ap sz : Nat) (av : Nat → Nat → Int32) (td w : Int32) : Int32 := if w = 0 then td else if w = 1 then nI pl else if w = 2 then nI pn else if w = 3 then nI ap else if w = 4 then nI tz else if w = 5 then nI sz else if w = 6 then cntI (fun i => aS (av i) td td) ap else -1
def cs_hoP (vh : Nat → Nat → Int32) (q d k : Int32) (i : Nat) : Prop := vh i 0 = q ∧ vh i 2 ≤ d ∧ vh i 3 ≤ k
noncomputable def cs_holder (pl nh : Nat) (vh : Nat → Nat → Int32) (q d k : Int32) : Int32 := if pB (isAt q pl ∧ md_in d 0 9999 ∧ md_in k 0 9999) then bfr (fun i => vh i 1) (bst (cs_hoP vh q d k) (fun i => vh i 2) nh) else -1
theorem cntI_y {P : Nat → Prop} {i : Nat} (h : P i) : cntI P (i + 1) = cntI P i + 1 := by rw [cntI, pB_t h]; rfl
theorem cntI_n {P : Nat → Prop} {i : Nat} (h : ¬ P i) : cntI P (i + 1) = cntI P i := by
  rw [cntI, pB_f h]
  exact Int32.add_zero _
abbrev rmX7_isPlace : Room := { frames := 1, cells := 0, slots := 0, locals := 22 }
set_option maxHeartbeats 4000000 in
set_option maxRecDepth 100000 in
theorem c_X7_isPlace (l : Launch) (X : mp_X) (G : mp_G) (A : Nat → Prop) (M : mp_M) (x : Int32) : mp_Met l X G A yX7_isPlace wsX7_isPlace rmX7_isPlace ([.int x] : List Value) M (fun r M1 => r = some (.int (bI (pB (md_in x 0 63)))) ∧ M1 = M) 0 0 := by
  refine mp_ofW (cc := cX7_isPlace) (maxL := 1) (ret := (some .boolean)) (by decide) rfl (Nat.le_of_ble_eq_true rfl) ?_
  intro p e s m below meth c ls hx hb hr hts hown hlocks hnm hml hC hM hS hl
  have hl : lv_has ls 1 [(0, .int x)] := hl
  have hown : s.vm.findClass RX7 = some m.cls := hown
  refine lv_iload_n hx hb dX7_isPlace_0 rfl (lv_at hl 0 rfl) ?_
  refine lv_iconst (v := (0 : Int32)) hx hb dX7_isPlace_1 (by decide) ?_
  refine lv_bipush (v := (63 : Int32)) hx hb dX7_isPlace_2 (by decide) ?_
  refine mp_calli (va_runS (As := [.int x, .int (0 : Int32), .int (63 : Int32)]) (rest := []) ⟨hx, hb, hml, hown, hts⟩ (c_X7_isWithin l X G A (M) x (0 : Int32) (63 : Int32)) (va_cwS 3 hts gX7_isPlace_X7_isWithin rfl rfl rfl (by decide +kernel) ⟨Nat.le_of_ble_eq_true rfl, Nat.le_of_ble_eq_true rfl⟩) (mp_preS hC hS hM) rfl rfl hl.1 rfl (lv_room (Nat.le_of_ble_eq_true rfl)) dX7_isPlace_4 ⟨Nat.le_of_ble_eq_true rfl, Nat.le_of_ble_eq_true rfl⟩) hS (fun H locs hM hS => ?_)
  exact mp_zret hx hb hr hlocks (Nat.le_of_ble_eq_true rfl) (Nat.le_of_ble_eq_true rfl) hM hS dX7_isPlace_7 (bI_nar _) (⟨rfl, rfl⟩)
abbrev rmX7_isDay : Room := { frames := 1, cells := 0, slots := 0, locals := 22 }
set_option maxHeartbeats 4000000 in
set_option maxRecDepth 100000 in
theorem c_X7_isDay (l : Launch) (X : mp_X) (G : mp_G) (A : Nat → Prop) (M : mp_M) (x : Int32) : mp_Met l X G A yX7_isDay wsX7_isDay rmX7_isDay ([.int x] : List Value) M (fun r M1 => r = some (.int (bI (pB (md_in x 0 9999)))) ∧ M1 = M) 0 0 := by
  refine mp_ofW (cc := cX7_isDay) (maxL := 1) (ret := (some .boolean)) (by decide) rfl (Nat.le_of_ble_eq_true rfl) ?_
  intro p e s m below meth c ls hx hb hr hts hown hlocks hnm hml hC hM hS hl
  have hl : lv_has ls 1 [(0, .int x)] := hl
  have hown : s.vm.findClass RX7 = some m.cls := hown
  refine lv_iload_n hx hb dX7_isDay_0 rfl (lv_at hl 0 rfl) ?_
  refine lv_iconst (v := (0 : Int32)) hx hb dX7_isDay_1 (by decide) ?_
  refine lv_sipush (v := (9999 : Int32)) hx hb dX7_isDay_2 (by decide) ?_
  refine mp_calli (va_runS (As := [.int x, .int (0 : Int32), .int (9999 : Int32)]) (rest := []) ⟨hx, hb, hml, hown, hts⟩ (c_X7_isWithin l X G A (M) x (0 : Int32) (9999 : Int32)) (va_cwS 3 hts gX7_isDay_X7_isWithin rfl rfl rfl (by decide +kernel) ⟨Nat.le_of_ble_eq_true rfl, Nat.le_of_ble_eq_true rfl⟩) (mp_preS hC hS hM) rfl rfl hl.1 rfl (lv_room (Nat.le_of_ble_eq_true rfl)) dX7_isDay_5 ⟨Nat.le_of_ble_eq_true rfl, Nat.le_of_ble_eq_true rfl⟩) hS (fun H locs hM hS => ?_)
  exact mp_zret hx hb hr hlocks (Nat.le_of_ble_eq_true rfl) (Nat.le_of_ble_eq_true rfl) hM hS dX7_isDay_8 (bI_nar _) (⟨rfl, rfl⟩)
abbrev rmX7_day : Room := { frames := 0, cells := 0, slots := 0, locals := 0 }
set_option maxHeartbeats 4000000 in
set_option maxRecDepth 100000 in
theorem c_X7_day (l : Launch) (X : mp_X) (G : mp_G) (A : Nat → Prop) (M : mp_M) (bq : Nat) (l0 : Nat) (l1 : Nat) (l2 : Nat) (l3 : Nat) (tp : Nat) (tz : Nat) (td : Int32) (fl : Int32) (tt : Nat → Int32) (pl : Nat) (ra : Nat → Nat) (Rg : Nat → rg_R) (pn : Nat) (pa : Nat → Nat) (pf : Nat → Int32) (pk : Nat → Int32) (zc : Nat → Nat) (zz : Nat → Nat → zr) (ap : Nat) (aa : Nat → Nat) (dq : Nat → Nat) (av : Nat → Nat → Int32) (dv : Nat → ds_D) (nh : Nat) (ah : Nat → Nat) (vh : Nat → Nat → Int32) (hB : BN G X M bq l0 l1 l2 l3 tp tz td fl tt pl ra Rg pn pa pf pk zc zz ap aa dq av dv nh ah vh) (d : Int32) : mp_Met l X G A yX7_day wsX7_day rmX7_day ([.ref bq, .int d] : List Value) M (fun r M1 => r = some (.int (bI (pB (td < d ∧ d ≤ 9999)))) ∧ BN G X M1 bq l0 l1 l2 l3 tp tz (if pB (td < d ∧ d ≤ 9999) then d else td) fl tt pl ra Rg pn pa pf pk zc zz ap aa dq av dv nh ah vh ∧ (∀ k : mp_N, k.1 = 9 → M1 k = M k)) 0 0 := by
  refine mp_ofW (cc := cX7_day) (maxL := 2) (ret := (some .boolean)) (by decide) rfl (Nat.le_of_ble_eq_true rfl) ?_
  intro p e s m below meth c ls hx hb hr hts hown hlocks hnm hml hC hM hS hl
  have hl : lv_has ls 2 [(0, .ref bq), (1, .int d)] := hl
  have hown : s.vm.findClass RX7 = some m.cls := hown
  have hin_wsX70 : ∀ w ∈ wsX70, w ∈ wsX7_day := fun _ h => List.mem_cons_of_mem _ (List.mem_append_right _ h)
  have fl_40 := hts (.fieldLink RX7 40 "PlanningBench" "today" "I") (List.mem_of_getElem? (i := 1) rfl)
  have hb9 := hB.b
  refine lv_iload_n hx hb dX7_day_0 rfl (lv_at hl 1 rfl) ?_
  refine lv_aload_n hx hb dX7_day_1 rfl (lv_at hl 0 rfl) ?_
  refine va_get (D := G.1) (C := RX7) (T := TX7) (N := 9) (ci := 8) hx hb hts hin_wsX70 hown hC.1 (hM.one hB.O) 0 rfl rfl 7 (by decide) fl_40 (fun _ z => z) rfl dX7_day_2 ?_
  refine lv_icmp_le (tgt := 15) hx hb dX7_day_5 (by decide) (fun c1 => ?_) (fun c1 => ?_)
  · have c1 := c1
    refine lv_iconst (v := (0 : Int32)) hx hb dX7_day_15 (by decide) ?_
    exact mp_zret hx hb hr hlocks (Nat.le_of_ble_eq_true rfl) (Nat.le_of_ble_eq_true rfl) hM hS dX7_day_16 (by first | rfl | exact bI_nar _) (have z0 : ¬ (td < d ∧ d ≤ 9999) := (fun z => absurd c1 (i_nle.mpr z.1)); ⟨b0 z0, by rw [pB_f z0]; exact hB, fun _ _ => rfl⟩)
  · have c1 := c1
    refine lv_iload_n hx hb dX7_day_8 rfl (lv_at hl 1 rfl) ?_
    refine lv_sipush (v := (9999 : Int32)) hx hb dX7_day_9 (by decide) ?_
    refine lv_icmp_le (tgt := 17) hx hb dX7_day_12 (by decide) (fun c3 => ?_) (fun c3 => ?_)
    · have c3 := c3
      refine lv_aload_n hx hb dX7_day_17 rfl (lv_at hl 0 rfl) ?_
      refine lv_iload_n hx hb dX7_day_18 rfl (lv_at hl 1 rfl) ?_
      refine mp_put (D := G.1) (C := RX7) (T := TX7) (N := 9) (ci := 8) hx hb hts hin_wsX70 tyX7 tyX7_ok nmX7 hown hC.1 hM hS hB.O rfl 7 (by decide) fl_40 (fun _ z => z) rfl rfl rfl (Nat.le_of_ble_eq_true rfl) dX7_day_19 (fs' := [.ref l0, .ref l1, .ref l2, .ref l3, .ref tp, .ref (ra pl), .int (nI tz), .int d, .int fl]) rfl (fun H locs hM hS => ?_)
      have hM : mp_P G.1 A (mp_set M (8, 0, 0) (bq, .inr (8, [.ref l0, .ref l1, .ref l2, .ref l3, .ref tp, .ref (ra pl), .int (nI tz), .int d, .int fl]))) H := hM
      refine lv_iconst (v := (1 : Int32)) hx hb dX7_day_22 (by decide) ?_
      exact mp_zret hx hb hr hlocks (Nat.le_of_ble_eq_true rfl) (Nat.le_of_ble_eq_true rfl) hM hS dX7_day_23 (by first | rfl | exact bI_nar _) (have z0 : td < d ∧ d ≤ 9999 := ⟨i_nle.mp c1, c3⟩; ⟨b1 z0, by rw [pB_t z0]; exact hB.obj tz d fl hB.tz9, fr9 (by simp)⟩)
    · have c3 := c3
      refine lv_iconst (v := (0 : Int32)) hx hb dX7_day_15 (by decide) ?_
      exact mp_zret hx hb hr hlocks (Nat.le_of_ble_eq_true rfl) (Nat.le_of_ble_eq_true rfl) hM hS dX7_day_16 (by first | rfl | exact bI_nar _) (have z0 : ¬ (td < d ∧ d ≤ 9999) := (fun z => c3 z.2); ⟨b0 z0, by rw [pB_f z0]; exact hB, fun _ _ => rfl⟩)
abbrev rmX7_fault : Room := { frames := 0, cells := 0, slots := 0, locals := 0 }
set_option maxHeartbeats 4000000 in
set_option maxRecDepth 100000 in
theorem c_X7_fault (l : Launch) (X : mp_X) (G : mp_G) (A : Nat → Prop) (M : mp_M) (bq : Nat) (l0 : Nat) (l1 : Nat) (l2 : Nat) (l3 : Nat) (tp : Nat) (tz : Nat) (td : Int32) (fl : Int32) (tt : Nat → Int32) (pl : Nat) (ra : Nat → Nat) (Rg : Nat → rg_R) (pn : Nat) (pa : Nat → Nat) (pf : Nat → Int32) (pk : Nat → Int32) (zc : Nat → Nat) (zz : Nat → Nat → zr) (ap : Nat) (aa : Nat → Nat) (dq : Nat → Nat) (av : Nat → Nat → Int32) (dv : Nat → ds_D) (nh : Nat) (ah : Nat → Nat) (vh : Nat → Nat → Int32) (hB : BN G X M bq l0 l1 l2 l3 tp tz td fl tt pl ra Rg pn pa pf pk zc zz ap aa dq av dv nh ah vh) : mp_Met l X G A yX7_fault wsX7_fault rmX7_fault ([.ref bq] : List Value) M (fun r M1 => r = some (.int fl) ∧ M1 = M) 0 0 := by
  refine mp_ofW (cc := cX7_fault) (maxL := 1) (ret := (some .int)) (by decide) rfl (Nat.le_of_ble_eq_true rfl) ?_
  intro p e s m below meth c ls hx hb hr hts hown hlocks hnm hml hC hM hS hl
  have hl : lv_has ls 1 [(0, .ref bq)] := hl
  have hown : s.vm.findClass RX7 = some m.cls := hown
  have hin_wsX70 : ∀ w ∈ wsX70, w ∈ wsX7_fault := fun _ h => List.mem_cons_of_mem _ (List.mem_append_right _ h)
  have fl_43 := hts (.fieldLink RX7 43 "PlanningBench" "faultPlace" "I") (List.mem_of_getElem? (i := 1) rfl)
  have hb9 := hB.b
  refine lv_aload_n hx hb dX7_fault_0 rfl (lv_at hl 0 rfl) ?_
  refine va_get (D := G.1) (C := RX7) (T := TX7) (N := 9) (ci := 8) hx hb hts hin_wsX70 hown hC.1 (hM.one hB.O) 0 rfl rfl 8 (by decide) fl_43 (fun _ z => z) rfl dX7_fault_1 ?_
  exact mp_iret hx hb hr hlocks (Nat.le_of_ble_eq_true rfl) (Nat.le_of_ble_eq_true rfl) hM hS dX7_fault_4 (⟨rfl, rfl⟩)
abbrev rmX7_ringAt : Room := { frames := 3, cells := 0, slots := 0, locals := 64 }
set_option maxHeartbeats 4000000 in
set_option maxRecDepth 100000 in
theorem c_X7_ringAt (l : Launch) (X : mp_X) (G : mp_G) (A : Nat → Prop) (M : mp_M) (bq : Nat) (l0 : Nat) (l1 : Nat) (l2 : Nat) (l3 : Nat) (tp : Nat) (tz : Nat) (td : Int32) (fl : Int32) (tt : Nat → Int32) (pl : Nat) (ra : Nat → Nat) (Rg : Nat → rg_R) (pn : Nat) (pa : Nat → Nat) (pf : Nat → Int32) (pk : Nat → Int32) (zc : Nat → Nat) (zz : Nat → Nat → zr) (ap : Nat) (aa : Nat → Nat) (dq : Nat → Nat) (av : Nat → Nat → Int32) (dv : Nat → ds_D) (nh : Nat) (ah : Nat → Nat) (vh : Nat → Nat → Int32) (hB : BN G X M bq l0 l1 l2 l3 tp tz td fl tt pl ra Rg pn pa pf pk zc zz ap aa dq av dv nh ah vh) (j : Nat) (hj : j < pl) : mp_Met l X G A yX7_ringAt wsX7_ringAt rmX7_ringAt ([.ref bq, .int (nI j)] : List Value) M (fun r M1 => r = some (.ref (ra j)) ∧ M1 = M) 0 0 := by
  refine mp_ofW (cc := cX7_ringAt) (maxL := 2) (ret := (some (.object "PlanningBench$Ring"))) (by decide) rfl (Nat.le_of_ble_eq_true rfl) ?_
  intro p e s m below meth c ls hx hb hr hts hown hlocks hnm hml hC hM hS hl
  have hl : lv_has ls 2 [(0, .ref bq), (1, .int (nI j))] := hl
  have hown : s.vm.findClass RX7 = some m.cls := hown
  have hin_wsX70 : ∀ w ∈ wsX70, w ∈ wsX7_ringAt := fun _ h => List.mem_cons_of_mem _ (List.mem_append_left _ (List.mem_append_right _ h))
  have fl_10 := hts (.fieldLink RX7 10 "PlanningBench" "plots" "Ljava/util/ArrayList;") (List.mem_of_getElem? (i := 1) rfl)
  have cl_29 := hts (.classLink RX7 29 "PlanningBench$Ring") (List.mem_of_getElem? (i := 2) rfl)
  have hb9 := hB.b
  refine lv_iload_n hx hb dX7_ringAt_0 rfl (lv_at hl 1 rfl) ?_
  refine lv_if_lt (tgt := 29) hx hb dX7_ringAt_1 (by decide) (fun c_1 => ?_) (fun c_1 => ?_)
  · have c_1 := nn_lt (a := j) (b := 0) (by omega) (by omega) c_1
    exact absurd c_1 (Nat.not_lt_zero _)
  · have c_1 := nn_nlt (a := j) (b := 0) (by omega) (by omega) c_1
    refine lv_iload_n hx hb dX7_ringAt_4 rfl (lv_at hl 1 rfl) ?_
    refine lv_aload_n hx hb dX7_ringAt_5 rfl (lv_at hl 0 rfl) ?_
    refine va_get (D := G.1) (C := RX7) (T := TX7) (N := 9) (ci := 8) hx hb hts hin_wsX70 hown hC.1 (hM.one hB.O) 0 rfl rfl 0 (by decide) fl_10 (fun _ z => z) rfl dX7_ringAt_6 ?_
    refine mp_calli (va_runV (As := []) (rest := [.int (nI j)]) ⟨hx, hb, hml, hown, hts⟩ (c_size l X G A (M) hB.L0) (cwV 0 hts gX7_ringAt_Jx4a65c_size_8abf5 rfl rfl rfl (by decide +kernel) ⟨Nat.le_of_ble_eq_true rfl, Nat.le_of_ble_eq_true rfl⟩) (mp_preV hC hS hM (mp_recvL hC.1 hM hB.L0)) rfl rfl hl.1 rfl (lv_room (Nat.le_of_ble_eq_true rfl)) dX7_ringAt_9 ⟨Nat.le_of_ble_eq_true rfl, Nat.le_of_ble_eq_true rfl⟩) hS (fun H locs hM hS => ?_)
    refine lv_icmp_ge (tgt := 29) hx hb dX7_ringAt_12 (by decide) (fun c_2 => ?_) (fun c_2 => ?_)
    · have c_2 := nn_le (a := pl) (b := j) (by omega) (by omega) c_2
      exact absurd c_2 (by omega)
    · have c_2 := nn_nle (a := pl) (b := j) (by omega) (by omega) c_2
      refine lv_aload_n hx hb dX7_ringAt_15 rfl (lv_at hl 0 rfl) ?_
      refine va_get (D := G.1) (C := RX7) (T := TX7) (N := 9) (ci := 8) hx hb hts hin_wsX70 hown hC.1 (hM.one hB.O) 0 rfl rfl 0 (by decide) fl_10 (fun _ z => z) rfl dX7_ringAt_16 ?_
      refine lv_iload_n hx hb dX7_ringAt_19 rfl (lv_at hl 1 rfl) ?_
      refine mp_callr (va_runV (As := [.int (nI j)]) (rest := []) ⟨hx, hb, hml, hown, hts⟩ (c_get l X G A (M) hB.L0 j (by omega)) (cwV 1 hts gX7_ringAt_Jx4a65c_get_915e3 rfl rfl rfl (by decide +kernel) ⟨Nat.le_of_ble_eq_true rfl, Nat.le_of_ble_eq_true rfl⟩) (mp_preV hC hS hM (mp_recvL hC.1 hM hB.L0)) rfl rfl hl.1 rfl (lv_room (Nat.le_of_ble_eq_true rfl)) dX7_ringAt_20 ⟨Nat.le_of_ble_eq_true rfl, Nat.le_of_ble_eq_true rfl⟩) hS (fun H locs hM hS => ?_)
      obtain ⟨ax_j, ay_j, hR_j, hX_j, hY_j, hs_j⟩ := hB.R (i := j) (by omega)
      refine va_castS hx hb hown cl_29 (hC.1.1 6 (RX5, TX5, 3) rfl).2 (mp_recv hC.1 hM hR_j (r := (RX5, TX5, 3)) rfl) dX7_ringAt_23 ?_
      refine lv_goto (tgt := 30) hx hb dX7_ringAt_26 (by decide) ?_
      exact mp_aret hx hb hr hlocks (Nat.le_of_ble_eq_true rfl) (Nat.le_of_ble_eq_true rfl) hM hS dX7_ringAt_30 (by first | exact Or.inl ⟨_, rfl⟩ | exact Or.inr ⟨_, rfl⟩) (by first | exact Or.inl rfl | exact Or.inr ⟨_, rfl⟩) (⟨rfl, rfl⟩)
set_option maxHeartbeats 4000000 in
set_option maxRecDepth 100000 in
theorem c_X7_ringAt_n (l : Launch) (X : mp_X) (G : mp_G) (A : Nat → Prop) (M : mp_M) (bq : Nat) (l0 : Nat) (l1 : Nat) (l2 : Nat) (l3 : Nat) (tp : Nat) (tz : Nat) (td : Int32) (fl : Int32) (tt : Nat → Int32) (pl : Nat) (ra : Nat → Nat) (Rg : Nat → rg_R) (pn : Nat) (pa : Nat → Nat) (pf : Nat → Int32) (pk : Nat → Int32) (zc : Nat → Nat) (zz : Nat → Nat → zr) (ap : Nat) (aa : Nat → Nat) (dq : Nat → Nat) (av : Nat → Nat → Int32) (dv : Nat → ds_D) (nh : Nat) (ah : Nat → Nat) (vh : Nat → Nat → Int32) (hB : BN G X M bq l0 l1 l2 l3 tp tz td fl tt pl ra Rg pn pa pf pk zc zz ap aa dq av dv nh ah vh) (q : Int32) (hq : ¬ isAt q pl) : mp_Met l X G A yX7_ringAt wsX7_ringAt rmX7_ringAt ([.ref bq, .int q] : List Value) M (fun r M1 => r = some .null ∧ M1 = M) 0 0 := by
  refine mp_ofW (cc := cX7_ringAt) (maxL := 2) (ret := (some (.object "PlanningBench$Ring"))) (by decide) rfl (Nat.le_of_ble_eq_true rfl) ?_
  intro p e s m below meth c ls hx hb hr hts hown hlocks hnm hml hC hM hS hl
  have hl : lv_has ls 2 [(0, .ref bq), (1, .int q)] := hl
  have hown : s.vm.findClass RX7 = some m.cls := hown
  have hin_wsX70 : ∀ w ∈ wsX70, w ∈ wsX7_ringAt := fun _ h => List.mem_cons_of_mem _ (List.mem_append_left _ (List.mem_append_right _ h))
  have fl_10 := hts (.fieldLink RX7 10 "PlanningBench" "plots" "Ljava/util/ArrayList;") (List.mem_of_getElem? (i := 1) rfl)
  have hb9 := hB.b
  refine lv_iload_n hx hb dX7_ringAt_0 rfl (lv_at hl 1 rfl) ?_
  refine lv_if_lt (tgt := 29) hx hb dX7_ringAt_1 (by decide) (fun c1 => ?_) (fun c1 => ?_)
  · have c1 := c1
    refine lv_null hx hb dX7_ringAt_29 ?_
    exact mp_aret hx hb hr hlocks (Nat.le_of_ble_eq_true rfl) (Nat.le_of_ble_eq_true rfl) hM hS dX7_ringAt_30 (by first | exact Or.inl ⟨_, rfl⟩ | exact Or.inr ⟨_, rfl⟩) (by first | exact Or.inl rfl | exact Or.inr ⟨_, rfl⟩) (⟨rfl, rfl⟩)
  · have c1 := c1
    refine lv_iload_n hx hb dX7_ringAt_4 rfl (lv_at hl 1 rfl) ?_
    refine lv_aload_n hx hb dX7_ringAt_5 rfl (lv_at hl 0 rfl) ?_
    refine va_get (D := G.1) (C := RX7) (T := TX7) (N := 9) (ci := 8) hx hb hts hin_wsX70 hown hC.1 (hM.one hB.O) 0 rfl rfl 0 (by decide) fl_10 (fun _ z => z) rfl dX7_ringAt_6 ?_
    refine mp_calli (va_runV (As := []) (rest := [.int q]) ⟨hx, hb, hml, hown, hts⟩ (c_size l X G A (M) hB.L0) (cwV 0 hts gX7_ringAt_Jx4a65c_size_8abf5 rfl rfl rfl (by decide +kernel) ⟨Nat.le_of_ble_eq_true rfl, Nat.le_of_ble_eq_true rfl⟩) (mp_preV hC hS hM (mp_recvL hC.1 hM hB.L0)) rfl rfl hl.1 rfl (lv_room (Nat.le_of_ble_eq_true rfl)) dX7_ringAt_9 ⟨Nat.le_of_ble_eq_true rfl, Nat.le_of_ble_eq_true rfl⟩) hS (fun H locs hM hS => ?_)
    refine lv_icmp_ge (tgt := 29) hx hb dX7_ringAt_12 (by decide) (fun c3 => ?_) (fun c3 => ?_)
    · have c3 := c3
      refine lv_null hx hb dX7_ringAt_29 ?_
      exact mp_aret hx hb hr hlocks (Nat.le_of_ble_eq_true rfl) (Nat.le_of_ble_eq_true rfl) hM hS dX7_ringAt_30 (by first | exact Or.inl ⟨_, rfl⟩ | exact Or.inr ⟨_, rfl⟩) (by first | exact Or.inl rfl | exact Or.inr ⟨_, rfl⟩) (⟨rfl, rfl⟩)
    · have c3 := c3
      exact absurd c3 (fun z => hq (nI_ex (by omega) c1 (i_nle.mp z)))
abbrev rmX7_planAt : Room := { frames := 3, cells := 0, slots := 0, locals := 64 }
set_option maxHeartbeats 4000000 in
set_option maxRecDepth 100000 in
theorem c_X7_planAt (l : Launch) (X : mp_X) (G : mp_G) (A : Nat → Prop) (M : mp_M) (bq : Nat) (l0 : Nat) (l1 : Nat) (l2 : Nat) (l3 : Nat) (tp : Nat) (tz : Nat) (td : Int32) (fl : Int32) (tt : Nat → Int32) (pl : Nat) (ra : Nat → Nat) (Rg : Nat → rg_R) (pn : Nat) (pa : Nat → Nat) (pf : Nat → Int32) (pk : Nat → Int32) (zc : Nat → Nat) (zz : Nat → Nat → zr) (ap : Nat) (aa : Nat → Nat) (dq : Nat → Nat) (av : Nat → Nat → Int32) (dv : Nat → ds_D) (nh : Nat) (ah : Nat → Nat) (vh : Nat → Nat → Int32) (hB : BN G X M bq l0 l1 l2 l3 tp tz td fl tt pl ra Rg pn pa pf pk zc zz ap aa dq av dv nh ah vh) (j : Nat) (hj : j < pn) : mp_Met l X G A yX7_planAt wsX7_planAt rmX7_planAt ([.ref bq, .int (nI j)] : List Value) M (fun r M1 => r = some (.ref (pa j)) ∧ M1 = M) 0 0 := by
  refine mp_ofW (cc := cX7_planAt) (maxL := 2) (ret := (some (.object "PlanningBench$Plan"))) (by decide) rfl (Nat.le_of_ble_eq_true rfl) ?_
  intro p e s m below meth c ls hx hb hr hts hown hlocks hnm hml hC hM hS hl
  have hl : lv_has ls 2 [(0, .ref bq), (1, .int (nI j))] := hl
  have hown : s.vm.findClass RX7 = some m.cls := hown
  have hin_wsX70 : ∀ w ∈ wsX70, w ∈ wsX7_planAt := fun _ h => List.mem_cons_of_mem _ (List.mem_append_left _ (List.mem_append_right _ h))
  have fl_16 := hts (.fieldLink RX7 16 "PlanningBench" "plans" "Ljava/util/ArrayList;") (List.mem_of_getElem? (i := 1) rfl)
  have cl_108 := hts (.classLink RX7 108 "PlanningBench$Plan") (List.mem_of_getElem? (i := 2) rfl)
  have hb9 := hB.b
  refine lv_iload_n hx hb dX7_planAt_0 rfl (lv_at hl 1 rfl) ?_
  refine lv_if_lt (tgt := 29) hx hb dX7_planAt_1 (by decide) (fun c_1 => ?_) (fun c_1 => ?_)
  · have c_1 := nn_lt (a := j) (b := 0) (by omega) (by omega) c_1
    exact absurd c_1 (Nat.not_lt_zero _)
  · have c_1 := nn_nlt (a := j) (b := 0) (by omega) (by omega) c_1
    refine lv_iload_n hx hb dX7_planAt_4 rfl (lv_at hl 1 rfl) ?_
    refine lv_aload_n hx hb dX7_planAt_5 rfl (lv_at hl 0 rfl) ?_
    refine va_get (D := G.1) (C := RX7) (T := TX7) (N := 9) (ci := 8) hx hb hts hin_wsX70 hown hC.1 (hM.one hB.O) 0 rfl rfl 1 (by decide) fl_16 (fun _ z => z) rfl dX7_planAt_6 ?_
    refine mp_calli (va_runV (As := []) (rest := [.int (nI j)]) ⟨hx, hb, hml, hown, hts⟩ (c_size l X G A (M) hB.L1) (cwV 0 hts gX7_planAt_Jx4a65c_size_8abf5 rfl rfl rfl (by decide +kernel) ⟨Nat.le_of_ble_eq_true rfl, Nat.le_of_ble_eq_true rfl⟩) (mp_preV hC hS hM (mp_recvL hC.1 hM hB.L1)) rfl rfl hl.1 rfl (lv_room (Nat.le_of_ble_eq_true rfl)) dX7_planAt_9 ⟨Nat.le_of_ble_eq_true rfl, Nat.le_of_ble_eq_true rfl⟩) hS (fun H locs hM hS => ?_)
    refine lv_icmp_ge (tgt := 29) hx hb dX7_planAt_12 (by decide) (fun c_2 => ?_) (fun c_2 => ?_)
    · have c_2 := nn_le (a := pn) (b := j) (by omega) (by omega) c_2
      exact absurd c_2 (by omega)
    · have c_2 := nn_nle (a := pn) (b := j) (by omega) (by omega) c_2
      refine lv_aload_n hx hb dX7_planAt_15 rfl (lv_at hl 0 rfl) ?_
      refine va_get (D := G.1) (C := RX7) (T := TX7) (N := 9) (ci := 8) hx hb hts hin_wsX70 hown hC.1 (hM.one hB.O) 0 rfl rfl 1 (by decide) fl_16 (fun _ z => z) rfl dX7_planAt_16 ?_
      refine lv_iload_n hx hb dX7_planAt_19 rfl (lv_at hl 1 rfl) ?_
      refine mp_callr (va_runV (As := [.int (nI j)]) (rest := []) ⟨hx, hb, hml, hown, hts⟩ (c_get l X G A (M) hB.L1 j (by omega)) (cwV 1 hts gX7_planAt_Jx4a65c_get_915e3 rfl rfl rfl (by decide +kernel) ⟨Nat.le_of_ble_eq_true rfl, Nat.le_of_ble_eq_true rfl⟩) (mp_preV hC hS hM (mp_recvL hC.1 hM hB.L1)) rfl rfl hl.1 rfl (lv_room (Nat.le_of_ble_eq_true rfl)) dX7_planAt_20 ⟨Nat.le_of_ble_eq_true rfl, Nat.le_of_ble_eq_true rfl⟩) hS (fun H locs hM hS => ?_)
      obtain ⟨zl_j, za_j, hP_j, hL_j, hz8_j, hZ_j⟩ := hB.P (i := j) (by omega)
      refine va_castS hx hb hown cl_108 (hC.1.1 4 (RX3, TX3, 3) rfl).2 (mp_recv hC.1 hM hP_j (r := (RX3, TX3, 3)) rfl) dX7_planAt_23 ?_
      refine lv_goto (tgt := 30) hx hb dX7_planAt_26 (by decide) ?_
      exact mp_aret hx hb hr hlocks (Nat.le_of_ble_eq_true rfl) (Nat.le_of_ble_eq_true rfl) hM hS dX7_planAt_30 (by first | exact Or.inl ⟨_, rfl⟩ | exact Or.inr ⟨_, rfl⟩) (by first | exact Or.inl rfl | exact Or.inr ⟨_, rfl⟩) (⟨rfl, rfl⟩)
set_option maxHeartbeats 4000000 in
set_option maxRecDepth 100000 in
theorem c_X7_planAt_n (l : Launch) (X : mp_X) (G : mp_G) (A : Nat → Prop) (M : mp_M) (bq : Nat) (l0 : Nat) (l1 : Nat) (l2 : Nat) (l3 : Nat) (tp : Nat) (tz : Nat) (td : Int32) (fl : Int32) (tt : Nat → Int32) (pl : Nat) (ra : Nat → Nat) (Rg : Nat → rg_R) (pn : Nat) (pa : Nat → Nat) (pf : Nat → Int32) (pk : Nat → Int32) (zc : Nat → Nat) (zz : Nat → Nat → zr) (ap : Nat) (aa : Nat → Nat) (dq : Nat → Nat) (av : Nat → Nat → Int32) (dv : Nat → ds_D) (nh : Nat) (ah : Nat → Nat) (vh : Nat → Nat → Int32) (hB : BN G X M bq l0 l1 l2 l3 tp tz td fl tt pl ra Rg pn pa pf pk zc zz ap aa dq av dv nh ah vh) (q : Int32) (hq : ¬ isAt q pn) : mp_Met l X G A yX7_planAt wsX7_planAt rmX7_planAt ([.ref bq, .int q] : List Value) M (fun r M1 => r = some .null ∧ M1 = M) 0 0 := by
  refine mp_ofW (cc := cX7_planAt) (maxL := 2) (ret := (some (.object "PlanningBench$Plan"))) (by decide) rfl (Nat.le_of_ble_eq_true rfl) ?_
  intro p e s m below meth c ls hx hb hr hts hown hlocks hnm hml hC hM hS hl
  have hl : lv_has ls 2 [(0, .ref bq), (1, .int q)] := hl
  have hown : s.vm.findClass RX7 = some m.cls := hown
  have hin_wsX70 : ∀ w ∈ wsX70, w ∈ wsX7_planAt := fun _ h => List.mem_cons_of_mem _ (List.mem_append_left _ (List.mem_append_right _ h))
  have fl_16 := hts (.fieldLink RX7 16 "PlanningBench" "plans" "Ljava/util/ArrayList;") (List.mem_of_getElem? (i := 1) rfl)
  have hb9 := hB.b
  refine lv_iload_n hx hb dX7_planAt_0 rfl (lv_at hl 1 rfl) ?_
  refine lv_if_lt (tgt := 29) hx hb dX7_planAt_1 (by decide) (fun c1 => ?_) (fun c1 => ?_)
  · have c1 := c1
    refine lv_null hx hb dX7_planAt_29 ?_
    exact mp_aret hx hb hr hlocks (Nat.le_of_ble_eq_true rfl) (Nat.le_of_ble_eq_true rfl) hM hS dX7_planAt_30 (by first | exact Or.inl ⟨_, rfl⟩ | exact Or.inr ⟨_, rfl⟩) (by first | exact Or.inl rfl | exact Or.inr ⟨_, rfl⟩) (⟨rfl, rfl⟩)
  · have c1 := c1
    refine lv_iload_n hx hb dX7_planAt_4 rfl (lv_at hl 1 rfl) ?_
    refine lv_aload_n hx hb dX7_planAt_5 rfl (lv_at hl 0 rfl) ?_
    refine va_get (D := G.1) (C := RX7) (T := TX7) (N := 9) (ci := 8) hx hb hts hin_wsX70 hown hC.1 (hM.one hB.O) 0 rfl rfl 1 (by decide) fl_16 (fun _ z => z) rfl dX7_planAt_6 ?_
    refine mp_calli (va_runV (As := []) (rest := [.int q]) ⟨hx, hb, hml, hown, hts⟩ (c_size l X G A (M) hB.L1) (cwV 0 hts gX7_planAt_Jx4a65c_size_8abf5 rfl rfl rfl (by decide +kernel) ⟨Nat.le_of_ble_eq_true rfl, Nat.le_of_ble_eq_true rfl⟩) (mp_preV hC hS hM (mp_recvL hC.1 hM hB.L1)) rfl rfl hl.1 rfl (lv_room (Nat.le_of_ble_eq_true rfl)) dX7_planAt_9 ⟨Nat.le_of_ble_eq_true rfl, Nat.le_of_ble_eq_true rfl⟩) hS (fun H locs hM hS => ?_)
    refine lv_icmp_ge (tgt := 29) hx hb dX7_planAt_12 (by decide) (fun c3 => ?_) (fun c3 => ?_)
    · have c3 := c3
      refine lv_null hx hb dX7_planAt_29 ?_
      exact mp_aret hx hb hr hlocks (Nat.le_of_ble_eq_true rfl) (Nat.le_of_ble_eq_true rfl) hM hS dX7_planAt_30 (by first | exact Or.inl ⟨_, rfl⟩ | exact Or.inr ⟨_, rfl⟩) (by first | exact Or.inl rfl | exact Or.inr ⟨_, rfl⟩) (⟨rfl, rfl⟩)
    · have c3 := c3
      exact absurd c3 (fun z => hq (nI_ex (by omega) c1 (i_nle.mp z)))
abbrev rmX7_applicationAt : Room := { frames := 3, cells := 0, slots := 0, locals := 64 }
set_option maxHeartbeats 4000000 in
set_option maxRecDepth 100000 in
theorem c_X7_applicationAt (l : Launch) (X : mp_X) (G : mp_G) (A : Nat → Prop) (M : mp_M) (bq : Nat) (l0 : Nat) (l1 : Nat) (l2 : Nat) (l3 : Nat) (tp : Nat) (tz : Nat) (td : Int32) (fl : Int32) (tt : Nat → Int32) (pl : Nat) (ra : Nat → Nat) (Rg : Nat → rg_R) (pn : Nat) (pa : Nat → Nat) (pf : Nat → Int32) (pk : Nat → Int32) (zc : Nat → Nat) (zz : Nat → Nat → zr) (ap : Nat) (aa : Nat → Nat) (dq : Nat → Nat) (av : Nat → Nat → Int32) (dv : Nat → ds_D) (nh : Nat) (ah : Nat → Nat) (vh : Nat → Nat → Int32) (hB : BN G X M bq l0 l1 l2 l3 tp tz td fl tt pl ra Rg pn pa pf pk zc zz ap aa dq av dv nh ah vh) (j : Nat) (hj : j < ap) : mp_Met l X G A yX7_applicationAt wsX7_applicationAt rmX7_applicationAt ([.ref bq, .int (nI j)] : List Value) M (fun r M1 => r = some (.ref (aa j)) ∧ M1 = M) 0 0 := by
  refine mp_ofW (cc := cX7_applicationAt) (maxL := 2) (ret := (some (.object "PlanningBench$Application"))) (by decide) rfl (Nat.le_of_ble_eq_true rfl) ?_
  intro p e s m below meth c ls hx hb hr hts hown hlocks hnm hml hC hM hS hl
  have hl : lv_has ls 2 [(0, .ref bq), (1, .int (nI j))] := hl
  have hown : s.vm.findClass RX7 = some m.cls := hown
  have hin_wsX70 : ∀ w ∈ wsX70, w ∈ wsX7_applicationAt := fun _ h => List.mem_cons_of_mem _ (List.mem_append_left _ (List.mem_append_right _ h))
  have fl_19 := hts (.fieldLink RX7 19 "PlanningBench" "applications" "Ljava/util/ArrayList;") (List.mem_of_getElem? (i := 1) rfl)
  have cl_209 := hts (.classLink RX7 209 "PlanningBench$Application") (List.mem_of_getElem? (i := 2) rfl)
  have hb9 := hB.b
  refine lv_iload_n hx hb dX7_applicationAt_0 rfl (lv_at hl 1 rfl) ?_
  refine lv_if_lt (tgt := 29) hx hb dX7_applicationAt_1 (by decide) (fun c_1 => ?_) (fun c_1 => ?_)
  · have c_1 := nn_lt (a := j) (b := 0) (by omega) (by omega) c_1
    exact absurd c_1 (Nat.not_lt_zero _)
  · have c_1 := nn_nlt (a := j) (b := 0) (by omega) (by omega) c_1
    refine lv_iload_n hx hb dX7_applicationAt_4 rfl (lv_at hl 1 rfl) ?_
    refine lv_aload_n hx hb dX7_applicationAt_5 rfl (lv_at hl 0 rfl) ?_
    refine va_get (D := G.1) (C := RX7) (T := TX7) (N := 9) (ci := 8) hx hb hts hin_wsX70 hown hC.1 (hM.one hB.O) 0 rfl rfl 2 (by decide) fl_19 (fun _ z => z) rfl dX7_applicationAt_6 ?_
    refine mp_calli (va_runV (As := []) (rest := [.int (nI j)]) ⟨hx, hb, hml, hown, hts⟩ (c_size l X G A (M) hB.L2) (cwV 0 hts gX7_applicationAt_Jx4a65c_size_8abf5 rfl rfl rfl (by decide +kernel) ⟨Nat.le_of_ble_eq_true rfl, Nat.le_of_ble_eq_true rfl⟩) (mp_preV hC hS hM (mp_recvL hC.1 hM hB.L2)) rfl rfl hl.1 rfl (lv_room (Nat.le_of_ble_eq_true rfl)) dX7_applicationAt_9 ⟨Nat.le_of_ble_eq_true rfl, Nat.le_of_ble_eq_true rfl⟩) hS (fun H locs hM hS => ?_)
    refine lv_icmp_ge (tgt := 29) hx hb dX7_applicationAt_12 (by decide) (fun c_2 => ?_) (fun c_2 => ?_)
    · have c_2 := nn_le (a := ap) (b := j) (by omega) (by omega) c_2
      exact absurd c_2 (by omega)
    · have c_2 := nn_nle (a := ap) (b := j) (by omega) (by omega) c_2
      refine lv_aload_n hx hb dX7_applicationAt_15 rfl (lv_at hl 0 rfl) ?_
      refine va_get (D := G.1) (C := RX7) (T := TX7) (N := 9) (ci := 8) hx hb hts hin_wsX70 hown hC.1 (hM.one hB.O) 0 rfl rfl 2 (by decide) fl_19 (fun _ z => z) rfl dX7_applicationAt_16 ?_
      refine lv_iload_n hx hb dX7_applicationAt_19 rfl (lv_at hl 1 rfl) ?_
      refine mp_callr (va_runV (As := [.int (nI j)]) (rest := []) ⟨hx, hb, hml, hown, hts⟩ (c_get l X G A (M) hB.L2 j (by omega)) (cwV 1 hts gX7_applicationAt_Jx4a65c_get_915e3 rfl rfl rfl (by decide +kernel) ⟨Nat.le_of_ble_eq_true rfl, Nat.le_of_ble_eq_true rfl⟩) (mp_preV hC hS hM (mp_recvL hC.1 hM hB.L2)) rfl rfl hl.1 rfl (lv_room (Nat.le_of_ble_eq_true rfl)) dX7_applicationAt_20 ⟨Nat.le_of_ble_eq_true rfl, Nat.le_of_ble_eq_true rfl⟩) hS (fun H locs hM hS => ?_)
      refine va_castS hx hb hown cl_209 (hC.1.1 1 (RX0, TX0, 12) rfl).2 (mp_recv hC.1 hM (hB.A (i := j) (by omega)) (r := (RX0, TX0, 12)) rfl) dX7_applicationAt_23 ?_
      refine lv_goto (tgt := 30) hx hb dX7_applicationAt_26 (by decide) ?_
      exact mp_aret hx hb hr hlocks (Nat.le_of_ble_eq_true rfl) (Nat.le_of_ble_eq_true rfl) hM hS dX7_applicationAt_30 (by first | exact Or.inl ⟨_, rfl⟩ | exact Or.inr ⟨_, rfl⟩) (by first | exact Or.inl rfl | exact Or.inr ⟨_, rfl⟩) (⟨rfl, rfl⟩)
set_option maxHeartbeats 4000000 in
set_option maxRecDepth 100000 in
theorem c_X7_applicationAt_n (l : Launch) (X : mp_X) (G : mp_G) (A : Nat → Prop) (M : mp_M) (bq : Nat) (l0 : Nat) (l1 : Nat) (l2 : Nat) (l3 : Nat) (tp : Nat) (tz : Nat) (td : Int32) (fl : Int32) (tt : Nat → Int32) (pl : Nat) (ra : Nat → Nat) (Rg : Nat → rg_R) (pn : Nat) (pa : Nat → Nat) (pf : Nat → Int32) (pk : Nat → Int32) (zc : Nat → Nat) (zz : Nat → Nat → zr) (ap : Nat) (aa : Nat → Nat) (dq : Nat → Nat) (av : Nat → Nat → Int32) (dv : Nat → ds_D) (nh : Nat) (ah : Nat → Nat) (vh : Nat → Nat → Int32) (hB : BN G X M bq l0 l1 l2 l3 tp tz td fl tt pl ra Rg pn pa pf pk zc zz ap aa dq av dv nh ah vh) (q : Int32) (hq : ¬ isAt q ap) : mp_Met l X G A yX7_applicationAt wsX7_applicationAt rmX7_applicationAt ([.ref bq, .int q] : List Value) M (fun r M1 => r = some .null ∧ M1 = M) 0 0 := by
  refine mp_ofW (cc := cX7_applicationAt) (maxL := 2) (ret := (some (.object "PlanningBench$Application"))) (by decide) rfl (Nat.le_of_ble_eq_true rfl) ?_
  intro p e s m below meth c ls hx hb hr hts hown hlocks hnm hml hC hM hS hl
  have hl : lv_has ls 2 [(0, .ref bq), (1, .int q)] := hl
  have hown : s.vm.findClass RX7 = some m.cls := hown
  have hin_wsX70 : ∀ w ∈ wsX70, w ∈ wsX7_applicationAt := fun _ h => List.mem_cons_of_mem _ (List.mem_append_left _ (List.mem_append_right _ h))
  have fl_19 := hts (.fieldLink RX7 19 "PlanningBench" "applications" "Ljava/util/ArrayList;") (List.mem_of_getElem? (i := 1) rfl)
  have hb9 := hB.b
  refine lv_iload_n hx hb dX7_applicationAt_0 rfl (lv_at hl 1 rfl) ?_
  refine lv_if_lt (tgt := 29) hx hb dX7_applicationAt_1 (by decide) (fun c1 => ?_) (fun c1 => ?_)
  · have c1 := c1
    refine lv_null hx hb dX7_applicationAt_29 ?_
    exact mp_aret hx hb hr hlocks (Nat.le_of_ble_eq_true rfl) (Nat.le_of_ble_eq_true rfl) hM hS dX7_applicationAt_30 (by first | exact Or.inl ⟨_, rfl⟩ | exact Or.inr ⟨_, rfl⟩) (by first | exact Or.inl rfl | exact Or.inr ⟨_, rfl⟩) (⟨rfl, rfl⟩)
  · have c1 := c1
    refine lv_iload_n hx hb dX7_applicationAt_4 rfl (lv_at hl 1 rfl) ?_
    refine lv_aload_n hx hb dX7_applicationAt_5 rfl (lv_at hl 0 rfl) ?_
    refine va_get (D := G.1) (C := RX7) (T := TX7) (N := 9) (ci := 8) hx hb hts hin_wsX70 hown hC.1 (hM.one hB.O) 0 rfl rfl 2 (by decide) fl_19 (fun _ z => z) rfl dX7_applicationAt_6 ?_
    refine mp_calli (va_runV (As := []) (rest := [.int q]) ⟨hx, hb, hml, hown, hts⟩ (c_size l X G A (M) hB.L2) (cwV 0 hts gX7_applicationAt_Jx4a65c_size_8abf5 rfl rfl rfl (by decide +kernel) ⟨Nat.le_of_ble_eq_true rfl, Nat.le_of_ble_eq_true rfl⟩) (mp_preV hC hS hM (mp_recvL hC.1 hM hB.L2)) rfl rfl hl.1 rfl (lv_room (Nat.le_of_ble_eq_true rfl)) dX7_applicationAt_9 ⟨Nat.le_of_ble_eq_true rfl, Nat.le_of_ble_eq_true rfl⟩) hS (fun H locs hM hS => ?_)
    refine lv_icmp_ge (tgt := 29) hx hb dX7_applicationAt_12 (by decide) (fun c3 => ?_) (fun c3 => ?_)
    · have c3 := c3
      refine lv_null hx hb dX7_applicationAt_29 ?_
      exact mp_aret hx hb hr hlocks (Nat.le_of_ble_eq_true rfl) (Nat.le_of_ble_eq_true rfl) hM hS dX7_applicationAt_30 (by first | exact Or.inl ⟨_, rfl⟩ | exact Or.inr ⟨_, rfl⟩) (by first | exact Or.inl rfl | exact Or.inr ⟨_, rfl⟩) (⟨rfl, rfl⟩)
    · have c3 := c3
      exact absurd c3 (fun z => hq (nI_ex (by omega) c1 (i_nle.mp z)))
abbrev rmX7_ring : Room := { frames := 4, cells := 0, slots := 0, locals := 85 }
set_option maxHeartbeats 4000000 in
set_option maxRecDepth 100000 in
theorem c_X7_ring (l : Launch) (X : mp_X) (G : mp_G) (A : Nat → Prop) (M : mp_M) (bq : Nat) (l0 : Nat) (l1 : Nat) (l2 : Nat) (l3 : Nat) (tp : Nat) (tz : Nat) (td : Int32) (fl : Int32) (tt : Nat → Int32) (pl : Nat) (ra : Nat → Nat) (Rg : Nat → rg_R) (pn : Nat) (pa : Nat → Nat) (pf : Nat → Int32) (pk : Nat → Int32) (zc : Nat → Nat) (zz : Nat → Nat → zr) (ap : Nat) (aa : Nat → Nat) (dq : Nat → Nat) (av : Nat → Nat → Int32) (dv : Nat → ds_D) (nh : Nat) (ah : Nat → Nat) (vh : Nat → Nat → Int32) (hB : BN G X M bq l0 l1 l2 l3 tp tz td fl tt pl ra Rg pn pa pf pk zc zz ap aa dq av dv nh ah vh) (q w : Int32) : mp_Met l X G A yX7_ring wsX7_ring rmX7_ring ([.ref bq, .int q, .int w] : List Value) M (fun r M1 => r = some (.int (cs_ring pl Rg q w)) ∧ M1 = M) 0 0 := by
  refine mp_ofW (cc := cX7_ring) (maxL := 4) (ret := (some .int)) (by decide) rfl (Nat.le_of_ble_eq_true rfl) ?_
  intro p e s m below meth c ls hx hb hr hts hown hlocks hnm hml hC hM hS hl
  have hl : lv_has ls 4 [(0, .ref bq), (1, .int q), (2, .int w)] := hl
  have hown : s.vm.findClass RX7 = some m.cls := hown
  have hin_wsX50 : ∀ w ∈ wsX50, w ∈ wsX7_ring := fun _ h => List.mem_cons_of_mem _ (List.mem_append_left _ (List.mem_append_left _ (List.mem_append_right _ h)))
  have nf_54 := hC.2.1 (.fieldLinkNest RX7 54 "PlanningBench$Ring" "size" "I" "PlanningBench") (List.mem_of_getElem? (i := 3) rfl)
  have hb9 := hB.b
  refine lv_aload_n hx hb dX7_ring_0 rfl (lv_at hl 0 rfl) ?_
  refine lv_iload_n hx hb dX7_ring_1 rfl (lv_at hl 1 rfl) ?_
  by_cases hq : isAt q pl
  · skip
    obtain ⟨i, hi, ei⟩ := id hq
    have ni : q.toNatClampNeg = i := by rw [ei]; exact nI_clamp (by omega)
    refine mp_top (nI i) ei ?_
    refine mp_callr (va_runV (As := [.int (nI i)]) (rest := []) ⟨hx, hb, hml, hown, hts⟩ (c_X7_ringAt l X G A (M) bq l0 l1 l2 l3 tp tz td fl tt pl ra Rg pn pa pf pk zc zz ap aa dq av dv nh ah vh hB i hi) (cwV 1 hts gX7_ring_X7_ringAt rfl rfl rfl (by decide +kernel) ⟨Nat.le_of_ble_eq_true rfl, Nat.le_of_ble_eq_true rfl⟩) (mp_preV hC hS hM (mp_recv hC.1 hM hB.O (r := (RX7, TX7, 9)) rfl)) rfl rfl hl.1 rfl (lv_room (Nat.le_of_ble_eq_true rfl)) dX7_ring_2 ⟨Nat.le_of_ble_eq_true rfl, Nat.le_of_ble_eq_true rfl⟩) hS (fun H locs hM hS => ?_)
    obtain ⟨ax_i, ay_i, hR_i, hX_i, hY_i, hs_i⟩ := hB.R (i := i) (by omega)
    refine lv_astore_n (lv' := [(3, .ref (ra i)), (0, .ref bq), (1, .int q), (2, .int w)]) hx hb dX7_ring_5 rfl hl (by decide) rfl (fun ls hl => ?_)
    refine lv_aload_n hx hb dX7_ring_6 rfl (lv_at hl 0 rfl) ?_
    refine lv_ifnonnull (tgt := 12) hx hb dX7_ring_7 (by decide) ?_
    refine lv_iload_n hx hb dX7_ring_12 rfl (lv_at hl 3 rfl) ?_
    refine lv_if_ne (tgt := 21) hx hb dX7_ring_13 (by decide) (fun c1 => ?_) (fun c1 => ?_)
    · have c1 := c1
      refine lv_iload_n hx hb dX7_ring_21 rfl (lv_at hl 3 rfl) ?_
      refine lv_iconst (v := (1 : Int32)) hx hb dX7_ring_22 (by decide) ?_
      refine lv_icmp_ne (tgt := 31) hx hb dX7_ring_23 (by decide) (fun c3 => ?_) (fun c3 => ?_)
      · have c3 := c3
        refine lv_iload_n hx hb dX7_ring_31 rfl (lv_at hl 3 rfl) ?_
        refine lv_iconst (v := (2 : Int32)) hx hb dX7_ring_32 (by decide) ?_
        refine lv_icmp_ge (tgt := 40) hx hb dX7_ring_33 (by decide) (fun c4 => ?_) (fun c4 => ?_)
        · have c4 := c4
          refine lv_aload_n hx hb dX7_ring_40 rfl (lv_at hl 0 rfl) ?_
          refine lv_iload_n hx hb dX7_ring_41 rfl (lv_at hl 3 rfl) ?_
          refine lv_iconst (v := (2 : Int32)) hx hb dX7_ring_42 (by decide) ?_
          refine lv_isub hx hb dX7_ring_43 ?_
          refine mp_calli (va_runV (As := [.int (w - (2 : Int32))]) (rest := []) ⟨hx, hb, hml, hown, hts⟩ (c_X5_coordinate l X G A (M) (ra i) (Rg i) (hB.Rt (i := i) (by omega)) (hB.Rs (i := i) (by omega)) (w - (2 : Int32))) (cwV 1 hts gX7_ring_X5_coordinate rfl rfl rfl (by decide +kernel) ⟨Nat.le_of_ble_eq_true rfl, Nat.le_of_ble_eq_true rfl⟩) (mp_preV hC hS hM (mp_recv hC.1 hM hR_i (r := (RX5, TX5, 3)) rfl)) rfl rfl hl.1 rfl (lv_room (Nat.le_of_ble_eq_true rfl)) dX7_ring_44 ⟨Nat.le_of_ble_eq_true rfl, Nat.le_of_ble_eq_true rfl⟩) hS (fun H locs hM hS => ?_)
          exact mp_iret hx hb hr hlocks (Nat.le_of_ble_eq_true rfl) (Nat.le_of_ble_eq_true rfl) hM hS dX7_ring_47 (⟨by rw [cs_ring, pB_t hq, if_pos rfl, ni, if_neg c1, if_neg c3, if_neg (i_nlt.mpr c4)], rfl⟩)
        · have c4 := c4
          refine lv_iconst (v := (-1 : Int32)) hx hb dX7_ring_36 (by decide) ?_
          refine lv_goto (tgt := 47) hx hb dX7_ring_37 (by decide) ?_
          exact mp_iret hx hb hr hlocks (Nat.le_of_ble_eq_true rfl) (Nat.le_of_ble_eq_true rfl) hM hS dX7_ring_47 (⟨by rw [cs_ring, pB_t hq, if_pos rfl, ni, if_neg c1, if_neg c3, if_pos (i_nle.mp c4)], rfl⟩)
      · have c3 := c3
        refine lv_aload_n hx hb dX7_ring_26 rfl (lv_at hl 0 rfl) ?_
        refine mp_calli (va_runV (As := []) (rest := []) ⟨hx, hb, hml, hown, hts⟩ (c_X5_twiceArea l X G A (M) (ra i) (Rg i) (hB.Rt (i := i) (by omega)) (hB.Rs (i := i) (by omega))) (cwV 0 hts gX7_ring_X5_twiceArea rfl rfl rfl (by decide +kernel) ⟨Nat.le_of_ble_eq_true rfl, Nat.le_of_ble_eq_true rfl⟩) (mp_preV hC hS hM (mp_recv hC.1 hM hR_i (r := (RX5, TX5, 3)) rfl)) rfl rfl hl.1 rfl (lv_room (Nat.le_of_ble_eq_true rfl)) dX7_ring_27 ⟨Nat.le_of_ble_eq_true rfl, Nat.le_of_ble_eq_true rfl⟩) hS (fun H locs hM hS => ?_)
        exact mp_iret hx hb hr hlocks (Nat.le_of_ble_eq_true rfl) (Nat.le_of_ble_eq_true rfl) hM hS dX7_ring_30 (⟨by rw [cs_ring, pB_t hq, if_pos rfl, ni, if_neg c1, if_pos c3], rfl⟩)
    · have c1 := c1
      refine lv_aload_n hx hb dX7_ring_16 rfl (lv_at hl 0 rfl) ?_
      refine va_getN (D := G.1) (C := RX5) (T := TX5) (N := 3) (ci := 6) hx hb hts hin_wsX50 hown hC.1 (hM.one hR_i) 0 rfl rfl 2 (by decide) (va_Nw.use rfl nf_54) (fun _ z => z) rfl dX7_ring_17 ?_
      exact mp_iret hx hb hr hlocks (Nat.le_of_ble_eq_true rfl) (Nat.le_of_ble_eq_true rfl) hM hS dX7_ring_20 (⟨by rw [cs_ring, pB_t hq, if_pos rfl, ni, if_pos c1], rfl⟩)
  · skip
    refine mp_calln (va_runV (As := [.int q]) (rest := []) ⟨hx, hb, hml, hown, hts⟩ (c_X7_ringAt_n l X G A (M) bq l0 l1 l2 l3 tp tz td fl tt pl ra Rg pn pa pf pk zc zz ap aa dq av dv nh ah vh hB q hq) (cwV 1 hts gX7_ring_X7_ringAt rfl rfl rfl (by decide +kernel) ⟨Nat.le_of_ble_eq_true rfl, Nat.le_of_ble_eq_true rfl⟩) (mp_preV hC hS hM (mp_recv hC.1 hM hB.O (r := (RX7, TX7, 9)) rfl)) rfl rfl hl.1 rfl (lv_room (Nat.le_of_ble_eq_true rfl)) dX7_ring_2 ⟨Nat.le_of_ble_eq_true rfl, Nat.le_of_ble_eq_true rfl⟩) hS (fun H locs hM hS => ?_)
    refine lv_astore_nN (lv' := [(3, .null), (0, .ref bq), (1, .int q), (2, .int w)]) hx hb dX7_ring_5 rfl hl (by decide) rfl (fun ls hl => ?_)
    refine lv_aload_nN hx hb dX7_ring_6 rfl (lv_at hl 0 rfl) ?_
    refine lv_ifnonnullN hx hb dX7_ring_7 ?_
    refine lv_iconst (v := (-1 : Int32)) hx hb dX7_ring_10 (by decide) ?_
    exact mp_iret hx hb hr hlocks (Nat.le_of_ble_eq_true rfl) (Nat.le_of_ble_eq_true rfl) hM hS dX7_ring_11 (⟨by rw [cs_ring, pB_f hq]; rfl, rfl⟩)
abbrev rmX7_near : Room := { frames := 4, cells := 0, slots := 0, locals := 112 }
set_option maxHeartbeats 4000000 in
set_option maxRecDepth 100000 in
theorem c_X7_near (l : Launch) (X : mp_X) (G : mp_G) (A : Nat → Prop) (M : mp_M) (bq : Nat) (l0 : Nat) (l1 : Nat) (l2 : Nat) (l3 : Nat) (tp : Nat) (tz : Nat) (td : Int32) (fl : Int32) (tt : Nat → Int32) (pl : Nat) (ra : Nat → Nat) (Rg : Nat → rg_R) (pn : Nat) (pa : Nat → Nat) (pf : Nat → Int32) (pk : Nat → Int32) (zc : Nat → Nat) (zz : Nat → Nat → zr) (ap : Nat) (aa : Nat → Nat) (dq : Nat → Nat) (av : Nat → Nat → Int32) (dv : Nat → ds_D) (nh : Nat) (ah : Nat → Nat) (vh : Nat → Nat → Int32) (hB : BN G X M bq l0 l1 l2 l3 tp tz td fl tt pl ra Rg pn pa pf pk zc zz ap aa dq av dv nh ah vh) (q1 q2 d : Int32) : mp_Met l X G A yX7_near wsX7_near rmX7_near ([.ref bq, .int q1, .int q2, .int d] : List Value) M (fun r M1 => r = some (.int (bI (pB (cs_near pl Rg q1 q2 d)))) ∧ M1 = M) 0 0 := by
  refine mp_ofW (cc := cX7_near) (maxL := 6) (ret := (some .boolean)) (by decide) rfl (Nat.le_of_ble_eq_true rfl) ?_
  intro p e s m below meth c ls hx hb hr hts hown hlocks hnm hml hC hM hS hl
  have hl : lv_has ls 6 [(0, .ref bq), (1, .int q1), (2, .int q2), (3, .int d)] := hl
  have hown : s.vm.findClass RX7 = some m.cls := hown
  have hb9 := hB.b
  refine lv_aload_n hx hb dX7_near_0 rfl (lv_at hl 0 rfl) ?_
  refine lv_iload_n hx hb dX7_near_1 rfl (lv_at hl 1 rfl) ?_
  by_cases hq1 : isAt q1 pl
  · skip
    obtain ⟨i, hi, ei⟩ := id hq1
    have ni : q1.toNatClampNeg = i := by rw [ei]; exact nI_clamp (by omega)
    refine mp_top (nI i) ei ?_
    refine mp_callr (va_runV (As := [.int (nI i)]) (rest := []) ⟨hx, hb, hml, hown, hts⟩ (c_X7_ringAt l X G A (M) bq l0 l1 l2 l3 tp tz td fl tt pl ra Rg pn pa pf pk zc zz ap aa dq av dv nh ah vh hB i hi) (cwV 1 hts gX7_near_X7_ringAt rfl rfl rfl (by decide +kernel) ⟨Nat.le_of_ble_eq_true rfl, Nat.le_of_ble_eq_true rfl⟩) (mp_preV hC hS hM (mp_recv hC.1 hM hB.O (r := (RX7, TX7, 9)) rfl)) rfl rfl hl.1 rfl (lv_room (Nat.le_of_ble_eq_true rfl)) dX7_near_2 ⟨Nat.le_of_ble_eq_true rfl, Nat.le_of_ble_eq_true rfl⟩) hS (fun H locs hM hS => ?_)
    obtain ⟨ax_i, ay_i, hR_i, hX_i, hY_i, hs_i⟩ := hB.R (i := i) (by omega)
    refine lv_astore (lv' := [(4, .ref (ra i)), (0, .ref bq), (1, .int q1), (2, .int q2), (3, .int d)]) hx hb dX7_near_5 hl (by decide) rfl (fun ls hl => ?_)
    refine lv_aload_n hx hb dX7_near_7 rfl (lv_at hl 1 rfl) ?_
    refine lv_iload_n hx hb dX7_near_8 rfl (lv_at hl 3 rfl) ?_
    by_cases hq2 : isAt q2 pl
    · skip
      obtain ⟨j, hj, ej⟩ := id hq2
      have nj : q2.toNatClampNeg = j := by rw [ej]; exact nI_clamp (by omega)
      refine mp_top (nI j) ej ?_
      refine mp_callr (va_runV (As := [.int (nI j)]) (rest := []) ⟨hx, hb, hml, hown, hts⟩ (c_X7_ringAt l X G A (M) bq l0 l1 l2 l3 tp tz td fl tt pl ra Rg pn pa pf pk zc zz ap aa dq av dv nh ah vh hB j hj) (cwV 1 hts gX7_near_X7_ringAt rfl rfl rfl (by decide +kernel) ⟨Nat.le_of_ble_eq_true rfl, Nat.le_of_ble_eq_true rfl⟩) (mp_preV hC hS hM (mp_recv hC.1 hM hB.O (r := (RX7, TX7, 9)) rfl)) rfl rfl hl.1 rfl (lv_room (Nat.le_of_ble_eq_true rfl)) dX7_near_9 ⟨Nat.le_of_ble_eq_true rfl, Nat.le_of_ble_eq_true rfl⟩) hS (fun H locs hM hS => ?_)
      obtain ⟨ax_j, ay_j, hR_j, hX_j, hY_j, hs_j⟩ := hB.R (i := j) (by omega)
      refine lv_astore (lv' := [(5, .ref (ra j)), (4, .ref (ra i)), (0, .ref bq), (1, .int q1), (2, .int q2), (3, .int d)]) hx hb dX7_near_12 hl (by decide) rfl (fun ls hl => ?_)
      refine lv_aload hx hb dX7_near_14 (lv_at hl 1 rfl) ?_
      refine lv_ifnull hx hb dX7_near_16 ?_
      refine lv_aload hx hb dX7_near_19 (lv_at hl 0 rfl) ?_
      refine lv_ifnull hx hb dX7_near_21 ?_
      refine lv_iload_n hx hb dX7_near_24 rfl (lv_at hl 3 rfl) ?_
      refine lv_iload_n hx hb dX7_near_25 rfl (lv_at hl 4 rfl) ?_
      refine lv_icmp_eq (tgt := 39) hx hb dX7_near_26 (by decide) (fun c3 => ?_) (fun c3 => ?_)
      · have c3 := c3
        refine lv_iconst (v := (0 : Int32)) hx hb dX7_near_39 (by decide) ?_
        exact mp_zret hx hb hr hlocks (Nat.le_of_ble_eq_true rfl) (Nat.le_of_ble_eq_true rfl) hM hS dX7_near_40 (by first | rfl | exact bI_nar _) (⟨b0 (fun z => z.2.2.1 c3), rfl⟩)
      · have c3 := c3
        refine lv_iload_n hx hb dX7_near_29 rfl (lv_at hl 5 rfl) ?_
        refine lv_iconst (v := (0 : Int32)) hx hb dX7_near_30 (by decide) ?_
        refine lv_bipush (v := (100 : Int32)) hx hb dX7_near_31 (by decide) ?_
        refine mp_calli (va_runS (As := [.int d, .int (0 : Int32), .int (100 : Int32)]) (rest := []) ⟨hx, hb, hml, hown, hts⟩ (c_X7_isWithin l X G A (M) d (0 : Int32) (100 : Int32)) (va_cwS 3 hts gX7_near_X7_isWithin rfl rfl rfl (by decide +kernel) ⟨Nat.le_of_ble_eq_true rfl, Nat.le_of_ble_eq_true rfl⟩) (mp_preS hC hS hM) rfl rfl hl.1 rfl (lv_room (Nat.le_of_ble_eq_true rfl)) dX7_near_33 ⟨Nat.le_of_ble_eq_true rfl, Nat.le_of_ble_eq_true rfl⟩) hS (fun H locs hM hS => ?_)
        refine lv_if_ne (tgt := 41) hx hb dX7_near_36 (by decide) (fun c4 => ?_) (fun c4 => ?_)
        · have c4 : (pB (md_in d (0 : Int32) (100 : Int32))) = true := bI_1.mp c4
          refine lv_aload hx hb dX7_near_41 (lv_at hl 1 rfl) ?_
          refine lv_aload hx hb dX7_near_43 (lv_at hl 0 rfl) ?_
          refine lv_iload_n hx hb dX7_near_45 rfl (lv_at hl 5 rfl) ?_
          refine mp_calli (va_runV (As := [.ref (ra j), .int d]) (rest := []) ⟨hx, hb, hml, hown, hts⟩ (c_X5_isWithinOf l X G A (M) (ra i) (Rg i) (hB.Rt (i := i) (by omega)) (hB.Rs (i := i) (by omega)) (ra j) (Rg j) (hB.Rt (i := j) (by omega)) (hB.Rs (i := j) (by omega)) d) (cwV 2 hts gX7_near_X5_isWithinOf rfl rfl rfl (by decide +kernel) ⟨Nat.le_of_ble_eq_true rfl, Nat.le_of_ble_eq_true rfl⟩) (mp_preV hC hS hM (mp_recv hC.1 hM hR_i (r := (RX5, TX5, 3)) rfl)) rfl rfl hl.1 rfl (lv_room (Nat.le_of_ble_eq_true rfl)) dX7_near_46 ⟨Nat.le_of_ble_eq_true rfl, Nat.le_of_ble_eq_true rfl⟩) hS (fun H locs hM hS => ?_)
          exact mp_zret hx hb hr hlocks (Nat.le_of_ble_eq_true rfl) (Nat.le_of_ble_eq_true rfl) hM hS dX7_near_49 (bI_nar _) (⟨by rw [pB_congr (show (cdW (Rg i) (Rg j) d ∨ cdW (Rg j) (Rg i) d) ↔ cs_near pl Rg q1 q2 d from ⟨fun z => ⟨hq1, hq2, c3, pB_iff.mp c4, by rw [ni, nj]; exact z⟩, fun z => by have y := z.2.2.2.2; rw [ni, nj] at y; exact y⟩)], rfl⟩)
        · have c4 : (pB (md_in d (0 : Int32) (100 : Int32))) = false := bI_0.mp c4
          refine lv_iconst (v := (0 : Int32)) hx hb dX7_near_39 (by decide) ?_
          exact mp_zret hx hb hr hlocks (Nat.le_of_ble_eq_true rfl) (Nat.le_of_ble_eq_true rfl) hM hS dX7_near_40 (by first | rfl | exact bI_nar _) (⟨b0 (fun z => pB_not.mp c4 z.2.2.2.1), rfl⟩)
    · skip
      refine mp_calln (va_runV (As := [.int q2]) (rest := []) ⟨hx, hb, hml, hown, hts⟩ (c_X7_ringAt_n l X G A (M) bq l0 l1 l2 l3 tp tz td fl tt pl ra Rg pn pa pf pk zc zz ap aa dq av dv nh ah vh hB q2 hq2) (cwV 1 hts gX7_near_X7_ringAt rfl rfl rfl (by decide +kernel) ⟨Nat.le_of_ble_eq_true rfl, Nat.le_of_ble_eq_true rfl⟩) (mp_preV hC hS hM (mp_recv hC.1 hM hB.O (r := (RX7, TX7, 9)) rfl)) rfl rfl hl.1 rfl (lv_room (Nat.le_of_ble_eq_true rfl)) dX7_near_9 ⟨Nat.le_of_ble_eq_true rfl, Nat.le_of_ble_eq_true rfl⟩) hS (fun H locs hM hS => ?_)
      refine lv_astoreN (lv' := [(5, .null), (4, .ref (ra i)), (0, .ref bq), (1, .int q1), (2, .int q2), (3, .int d)]) hx hb dX7_near_12 hl (by decide) rfl (fun ls hl => ?_)
      refine lv_aload hx hb dX7_near_14 (lv_at hl 1 rfl) ?_
      refine lv_ifnull hx hb dX7_near_16 ?_
      refine lv_aloadN hx hb dX7_near_19 (lv_at hl 0 rfl) ?_
      refine lv_ifnullN (tgt := 39) hx hb dX7_near_21 (by decide) ?_
      refine lv_iconst (v := (0 : Int32)) hx hb dX7_near_39 (by decide) ?_
      exact mp_zret hx hb hr hlocks (Nat.le_of_ble_eq_true rfl) (Nat.le_of_ble_eq_true rfl) hM hS dX7_near_40 (by first | rfl | exact bI_nar _) (⟨b0 (fun z => hq2 z.2.1), rfl⟩)
  · skip
    refine mp_calln (va_runV (As := [.int q1]) (rest := []) ⟨hx, hb, hml, hown, hts⟩ (c_X7_ringAt_n l X G A (M) bq l0 l1 l2 l3 tp tz td fl tt pl ra Rg pn pa pf pk zc zz ap aa dq av dv nh ah vh hB q1 hq1) (cwV 1 hts gX7_near_X7_ringAt rfl rfl rfl (by decide +kernel) ⟨Nat.le_of_ble_eq_true rfl, Nat.le_of_ble_eq_true rfl⟩) (mp_preV hC hS hM (mp_recv hC.1 hM hB.O (r := (RX7, TX7, 9)) rfl)) rfl rfl hl.1 rfl (lv_room (Nat.le_of_ble_eq_true rfl)) dX7_near_2 ⟨Nat.le_of_ble_eq_true rfl, Nat.le_of_ble_eq_true rfl⟩) hS (fun H locs hM hS => ?_)
    refine lv_astoreN (lv' := [(4, .null), (0, .ref bq), (1, .int q1), (2, .int q2), (3, .int d)]) hx hb dX7_near_5 hl (by decide) rfl (fun ls hl => ?_)
    refine lv_aload_n hx hb dX7_near_7 rfl (lv_at hl 1 rfl) ?_
    refine lv_iload_n hx hb dX7_near_8 rfl (lv_at hl 3 rfl) ?_
    by_cases hq2 : isAt q2 pl
    · skip
      obtain ⟨j, hj, ej⟩ := id hq2
      have nj : q2.toNatClampNeg = j := by rw [ej]; exact nI_clamp (by omega)
      refine mp_top (nI j) ej ?_
      refine mp_callr (va_runV (As := [.int (nI j)]) (rest := []) ⟨hx, hb, hml, hown, hts⟩ (c_X7_ringAt l X G A (M) bq l0 l1 l2 l3 tp tz td fl tt pl ra Rg pn pa pf pk zc zz ap aa dq av dv nh ah vh hB j hj) (cwV 1 hts gX7_near_X7_ringAt rfl rfl rfl (by decide +kernel) ⟨Nat.le_of_ble_eq_true rfl, Nat.le_of_ble_eq_true rfl⟩) (mp_preV hC hS hM (mp_recv hC.1 hM hB.O (r := (RX7, TX7, 9)) rfl)) rfl rfl hl.1 rfl (lv_room (Nat.le_of_ble_eq_true rfl)) dX7_near_9 ⟨Nat.le_of_ble_eq_true rfl, Nat.le_of_ble_eq_true rfl⟩) hS (fun H locs hM hS => ?_)
      obtain ⟨ax_j, ay_j, hR_j, hX_j, hY_j, hs_j⟩ := hB.R (i := j) (by omega)
      refine lv_astore (lv' := [(5, .ref (ra j)), (4, .null), (0, .ref bq), (1, .int q1), (2, .int q2), (3, .int d)]) hx hb dX7_near_12 hl (by decide) rfl (fun ls hl => ?_)
      refine lv_aloadN hx hb dX7_near_14 (lv_at hl 1 rfl) ?_
      refine lv_ifnullN (tgt := 39) hx hb dX7_near_16 (by decide) ?_
      refine lv_iconst (v := (0 : Int32)) hx hb dX7_near_39 (by decide) ?_
      exact mp_zret hx hb hr hlocks (Nat.le_of_ble_eq_true rfl) (Nat.le_of_ble_eq_true rfl) hM hS dX7_near_40 (by first | rfl | exact bI_nar _) (⟨b0 (fun z => hq1 z.1), rfl⟩)
    · skip
      refine mp_calln (va_runV (As := [.int q2]) (rest := []) ⟨hx, hb, hml, hown, hts⟩ (c_X7_ringAt_n l X G A (M) bq l0 l1 l2 l3 tp tz td fl tt pl ra Rg pn pa pf pk zc zz ap aa dq av dv nh ah vh hB q2 hq2) (cwV 1 hts gX7_near_X7_ringAt rfl rfl rfl (by decide +kernel) ⟨Nat.le_of_ble_eq_true rfl, Nat.le_of_ble_eq_true rfl⟩) (mp_preV hC hS hM (mp_recv hC.1 hM hB.O (r := (RX7, TX7, 9)) rfl)) rfl rfl hl.1 rfl (lv_room (Nat.le_of_ble_eq_true rfl)) dX7_near_9 ⟨Nat.le_of_ble_eq_true rfl, Nat.le_of_ble_eq_true rfl⟩) hS (fun H locs hM hS => ?_)
      refine lv_astoreN (lv' := [(5, .null), (4, .null), (0, .ref bq), (1, .int q1), (2, .int q2), (3, .int d)]) hx hb dX7_near_12 hl (by decide) rfl (fun ls hl => ?_)
      refine lv_aloadN hx hb dX7_near_14 (lv_at hl 1 rfl) ?_
      refine lv_ifnullN (tgt := 39) hx hb dX7_near_16 (by decide) ?_
      refine lv_iconst (v := (0 : Int32)) hx hb dX7_near_39 (by decide) ?_
      exact mp_zret hx hb hr hlocks (Nat.le_of_ble_eq_true rfl) (Nat.le_of_ble_eq_true rfl) hM hS dX7_near_40 (by first | rfl | exact bI_nar _) (⟨b0 (fun z => hq1 z.1), rfl⟩)
abbrev rmX7_overlapsPlot : Room := { frames := 5, cells := 0, slots := 0, locals := 111 }
set_option maxHeartbeats 4000000 in
set_option maxRecDepth 100000 in
theorem c_X7_overlapsPlot (l : Launch) (X : mp_X) (G : mp_G) (A : Nat → Prop) (M : mp_M) (bq : Nat) (l0 : Nat) (l1 : Nat) (l2 : Nat) (l3 : Nat) (tp : Nat) (tz : Nat) (td : Int32) (fl : Int32) (tt : Nat → Int32) (pl : Nat) (ra : Nat → Nat) (Rg : Nat → rg_R) (pn : Nat) (pa : Nat → Nat) (pf : Nat → Int32) (pk : Nat → Int32) (zc : Nat → Nat) (zz : Nat → Nat → zr) (ap : Nat) (aa : Nat → Nat) (dq : Nat → Nat) (av : Nat → Nat → Int32) (dv : Nat → ds_D) (nh : Nat) (ah : Nat → Nat) (vh : Nat → Nat → Int32) (hB : BN G X M bq l0 l1 l2 l3 tp tz td fl tt pl ra Rg pn pa pf pk zc zz ap aa dq av dv nh ah vh) : mp_Met l X G A yX7_overlapsPlot wsX7_overlapsPlot rmX7_overlapsPlot ([.ref bq, .ref (ra pl)] : List Value) M (fun r M1 => r = some (.int (bI (pB (cs_ov pl Rg)))) ∧ M1 = M) 0 0 := by
  refine mp_ofW (cc := cX7_overlapsPlot) (maxL := 3) (ret := (some .boolean)) (by decide) rfl (Nat.le_of_ble_eq_true rfl) ?_
  intro p e s m below meth c ls hx hb hr hts hown hlocks hnm hml hC hM hS hl
  have hl : lv_has ls 3 [(0, .ref bq), (1, .ref (ra pl))] := hl
  have hown : s.vm.findClass RX7 = some m.cls := hown
  have hin_wsX70 : ∀ w ∈ wsX70, w ∈ wsX7_overlapsPlot := fun _ h => List.mem_cons_of_mem _ (List.mem_append_left _ (List.mem_append_left _ (List.mem_append_right _ h)))
  have fl_10 := hts (.fieldLink RX7 10 "PlanningBench" "plots" "Ljava/util/ArrayList;") (List.mem_of_getElem? (i := 1) rfl)
  have cl_29 := hts (.classLink RX7 29 "PlanningBench$Ring") (List.mem_of_getElem? (i := 2) rfl)
  have hb9 := hB.b
  obtain ⟨axd, ayd, hRd, hXd, hYd, hsd⟩ := hB.R (Nat.le_refl pl)
  refine lv_iconst (v := (0 : Int32)) hx hb dX7_overlapsPlot_0 (by decide) ?_
  refine lv_istore_n (lv' := [(2, .int (0 : Int32)), (0, .ref bq), (1, .ref (ra pl))]) hx hb dX7_overlapsPlot_1 rfl hl (by decide) rfl (fun ls hl => ?_)
  have LP2 : ∀ (kk : Nat) (i : Nat) (ls : Array Slot) (H : Heap) (locs : List Loc), pl - i < kk → i ≤ pl → (∀ u, u < i → ¬ (¬ rg_parts (Rg pl) (Rg u) ∧ ¬ rg_parts (Rg u) (Rg pl))) → mp_P G.1 A M H → va_S A s.heap H locs → lv_has ls 3 [(0, .ref bq), (1, .ref (ra pl)), (2, .int (nI i))] → W p l e rmX7_overlapsPlot s m ([.ref bq, .ref (ra pl)] : List Value).toArray below meth c H locs 0 0 (MQ below (mp_Q G.1 A (fun r M1 => r = some (.int (bI (pB (cs_ov pl Rg)))) ∧ M1 = M)) ([.ref bq, .ref (ra pl)] : List Value).toArray s 0 0 A) (F0 m 2 ls []) := by
    intro kk
    induction kk with
    | zero => intro i ls H locs hk; exact absurd hk (Nat.not_lt_zero _)
    | succ kk ih =>
      intro i ls H locs hk hi hinv hM hS hl
      refine lv_iload_n hx hb dX7_overlapsPlot_2 rfl (lv_at hl 2 rfl) ?_
      refine lv_aload_n hx hb dX7_overlapsPlot_3 rfl (lv_at hl 0 rfl) ?_
      refine va_get (D := G.1) (C := RX7) (T := TX7) (N := 9) (ci := 8) hx hb hts hin_wsX70 hown hC.1 (hM.one hB.O) 0 rfl rfl 0 (by decide) fl_10 (fun _ z => z) rfl dX7_overlapsPlot_4 ?_
      refine mp_calli (va_runV (As := []) (rest := [.int (nI i)]) ⟨hx, hb, hml, hown, hts⟩ (c_size l X G A (M) hB.L0) (cwV 0 hts gX7_overlapsPlot_Jx4a65c_size_8abf5 rfl rfl rfl (by decide +kernel) ⟨Nat.le_of_ble_eq_true rfl, Nat.le_of_ble_eq_true rfl⟩) (mp_preV hC hS hM (mp_recvL hC.1 hM hB.L0)) rfl rfl hl.1 rfl (lv_room (Nat.le_of_ble_eq_true rfl)) dX7_overlapsPlot_7 ⟨Nat.le_of_ble_eq_true rfl, Nat.le_of_ble_eq_true rfl⟩) hS (fun H locs hM hS => ?_)
      refine lv_icmp_ge (tgt := 39) hx hb dX7_overlapsPlot_10 (by decide) (fun c1 => ?_) (fun c1 => ?_)
      · have c1 := nn_le (a := pl) (b := i) (by omega) (by omega) c1
        refine lv_iconst (v := (0 : Int32)) hx hb dX7_overlapsPlot_39 (by decide) ?_
        exact mp_zret hx hb hr hlocks (Nat.le_of_ble_eq_true rfl) (Nat.le_of_ble_eq_true rfl) hM hS dX7_overlapsPlot_40 (by first | rfl | exact bI_nar _) (⟨b0 (fun ⟨u, hu, z⟩ => hinv u (by omega) z), rfl⟩)
      · have c1 := nn_nle (a := pl) (b := i) (by omega) (by omega) c1
        refine lv_aload_n hx hb dX7_overlapsPlot_13 rfl (lv_at hl 1 rfl) ?_
        refine lv_aload_n hx hb dX7_overlapsPlot_14 rfl (lv_at hl 0 rfl) ?_
        refine va_get (D := G.1) (C := RX7) (T := TX7) (N := 9) (ci := 8) hx hb hts hin_wsX70 hown hC.1 (hM.one hB.O) 0 rfl rfl 0 (by decide) fl_10 (fun _ z => z) rfl dX7_overlapsPlot_15 ?_
        refine lv_iload_n hx hb dX7_overlapsPlot_18 rfl (lv_at hl 2 rfl) ?_
        refine mp_callr (va_runV (As := [.int (nI i)]) (rest := [.ref (ra pl)]) ⟨hx, hb, hml, hown, hts⟩ (c_get l X G A (M) hB.L0 i (by omega)) (cwV 1 hts gX7_overlapsPlot_Jx4a65c_get_915e3 rfl rfl rfl (by decide +kernel) ⟨Nat.le_of_ble_eq_true rfl, Nat.le_of_ble_eq_true rfl⟩) (mp_preV hC hS hM (mp_recvL hC.1 hM hB.L0)) rfl rfl hl.1 rfl (lv_room (Nat.le_of_ble_eq_true rfl)) dX7_overlapsPlot_19 ⟨Nat.le_of_ble_eq_true rfl, Nat.le_of_ble_eq_true rfl⟩) hS (fun H locs hM hS => ?_)
        obtain ⟨ax_i, ay_i, hR_i, hX_i, hY_i, hs_i⟩ := hB.R (i := i) (by omega)
        refine va_castS hx hb hown cl_29 (hC.1.1 6 (RX5, TX5, 3) rfl).2 (mp_recv hC.1 hM hR_i (r := (RX5, TX5, 3)) rfl) dX7_overlapsPlot_22 ?_
        refine mp_calli (va_runV (As := [.ref (ra i)]) (rest := []) ⟨hx, hb, hml, hown, hts⟩ (c_X5_overlaps l X G A (M) (ra pl) (Rg pl) (hB.Rt (Nat.le_refl pl)) (hB.Rs (Nat.le_refl pl)) (ra i) (Rg i) (hB.Rt (i := i) (by omega)) (hB.Rs (i := i) (by omega))) (cwV 1 hts gX7_overlapsPlot_X5_overlaps rfl rfl rfl (by decide +kernel) ⟨Nat.le_of_ble_eq_true rfl, Nat.le_of_ble_eq_true rfl⟩) (mp_preV hC hS hM (mp_recv hC.1 hM hRd (r := (RX5, TX5, 3)) rfl)) rfl rfl hl.1 rfl (lv_room (Nat.le_of_ble_eq_true rfl)) dX7_overlapsPlot_25 ⟨Nat.le_of_ble_eq_true rfl, Nat.le_of_ble_eq_true rfl⟩) hS (fun H locs hM hS => ?_)
        refine lv_if_eq (tgt := 33) hx hb dX7_overlapsPlot_28 (by decide) (fun c3 => ?_) (fun c3 => ?_)
        · have c3 : (pB (¬ rg_parts (Rg pl) (Rg i) ∧ ¬ rg_parts (Rg i) (Rg pl))) = false := bI_0.mp c3
          refine lv_iinc (v := nI (i + 1)) (lv' := [(2, .int (nI (i + 1))), (0, .ref bq), (1, .ref (ra pl))]) hx hb dX7_overlapsPlot_33 hl (k := 2) rfl (nI_1 i) (by decide) rfl (fun ls hl => ?_)
          refine lv_goto (tgt := 2) hx hb dX7_overlapsPlot_36 (by decide) ?_
          exact ih (i + 1) ls _ _ (by omega) (by omega) (fun u hu => (Nat.lt_succ_iff_lt_or_eq.mp hu).elim (hinv u) (fun z => by rw [z]; exact pB_not.mp c3)) hM hS (lv_sub hl [1, 2, 0] rfl)
        · have c3 : (pB (¬ rg_parts (Rg pl) (Rg i) ∧ ¬ rg_parts (Rg i) (Rg pl))) = true := bI_1.mp c3
          refine lv_iconst (v := (1 : Int32)) hx hb dX7_overlapsPlot_31 (by decide) ?_
          exact mp_zret hx hb hr hlocks (Nat.le_of_ble_eq_true rfl) (Nat.le_of_ble_eq_true rfl) hM hS dX7_overlapsPlot_32 (by first | rfl | exact bI_nar _) (⟨b1 ⟨i, c1, pB_iff.mp c3⟩, rfl⟩)
  exact LP2 _ 0 ls _ _ (Nat.lt_succ_self _) (Nat.zero_le _) (fun u hu => absurd hu (Nat.not_lt_zero u)) hM hS (lv_sub hl [1, 2, 0] rfl)
abbrev rmX7_planInForce : Room := { frames := 3, cells := 0, slots := 0, locals := 64 }
set_option maxHeartbeats 4000000 in
set_option maxRecDepth 100000 in
theorem c_X7_planInForce (l : Launch) (X : mp_X) (G : mp_G) (A : Nat → Prop) (M : mp_M) (bq : Nat) (l0 : Nat) (l1 : Nat) (l2 : Nat) (l3 : Nat) (tp : Nat) (tz : Nat) (td : Int32) (fl : Int32) (tt : Nat → Int32) (pl : Nat) (ra : Nat → Nat) (Rg : Nat → rg_R) (pn : Nat) (pa : Nat → Nat) (pf : Nat → Int32) (pk : Nat → Int32) (zc : Nat → Nat) (zz : Nat → Nat → zr) (ap : Nat) (aa : Nat → Nat) (dq : Nat → Nat) (av : Nat → Nat → Int32) (dv : Nat → ds_D) (nh : Nat) (ah : Nat → Nat) (vh : Nat → Nat → Int32) (hB : BN G X M bq l0 l1 l2 l3 tp tz td fl tt pl ra Rg pn pa pf pk zc zz ap aa dq av dv nh ah vh) (d k : Int32) : mp_Met l X G A yX7_planInForce wsX7_planInForce rmX7_planInForce ([.ref bq, .int d, .int k] : List Value) M (fun r M1 => r = some (.int (oI (bst (cs_plP pf pk d k) pf pn))) ∧ M1 = M) 0 0 := by
  refine mp_ofW (cc := cX7_planInForce) (maxL := 7) (ret := (some .int)) (by decide) rfl (Nat.le_of_ble_eq_true rfl) ?_
  intro p e s m below meth c ls hx hb hr hts hown hlocks hnm hml hC hM hS hl
  have hl : lv_has ls 7 [(0, .ref bq), (1, .int d), (2, .int k)] := hl
  have hown : s.vm.findClass RX7 = some m.cls := hown
  have hin_wsX70 : ∀ w ∈ wsX70, w ∈ wsX7_planInForce := fun _ h => List.mem_cons_of_mem _ (List.mem_append_left _ (List.mem_append_left _ (List.mem_append_right _ h)))
  have fl_16 := hts (.fieldLink RX7 16 "PlanningBench" "plans" "Ljava/util/ArrayList;") (List.mem_of_getElem? (i := 1) rfl)
  have cl_108 := hts (.classLink RX7 108 "PlanningBench$Plan") (List.mem_of_getElem? (i := 2) rfl)
  have hin_wsX30 : ∀ w ∈ wsX30, w ∈ wsX7_planInForce := fun _ h => List.mem_cons_of_mem _ (List.mem_append_left _ (List.mem_append_right _ h))
  have nf_142 := hC.2.1 (.fieldLinkNest RX7 142 "PlanningBench$Plan" "knownFrom" "I" "PlanningBench") (List.mem_of_getElem? (i := 5) rfl)
  have nf_145 := hC.2.1 (.fieldLinkNest RX7 145 "PlanningBench$Plan" "from" "I" "PlanningBench") (List.mem_of_getElem? (i := 4) rfl)
  have hb9 := hB.b
  refine lv_iconst (v := (-1 : Int32)) hx hb dX7_planInForce_0 (by decide) ?_
  refine lv_istore_n (lv' := [(3, .int (-1 : Int32)), (0, .ref bq), (1, .int d), (2, .int k)]) hx hb dX7_planInForce_1 rfl hl (by decide) rfl (fun ls hl => ?_)
  refine lv_iconst (v := (-1 : Int32)) hx hb dX7_planInForce_2 (by decide) ?_
  refine lv_istore (lv' := [(4, .int (-1 : Int32)), (3, .int (-1 : Int32)), (0, .ref bq), (1, .int d), (2, .int k)]) hx hb dX7_planInForce_3 hl (by decide) rfl (fun ls hl => ?_)
  refine lv_iconst (v := (0 : Int32)) hx hb dX7_planInForce_5 (by decide) ?_
  refine lv_istore (lv' := [(5, .int (0 : Int32)), (4, .int (-1 : Int32)), (3, .int (-1 : Int32)), (0, .ref bq), (1, .int d), (2, .int k)]) hx hb dX7_planInForce_6 hl (by decide) rfl (fun ls hl => ?_)
  have LP8 : ∀ (kk : Nat) (i : Nat) (ls : Array Slot) (H : Heap) (locs : List Loc), pn - i < kk → i ≤ pn → mp_P G.1 A M H → va_S A s.heap H locs → lv_has ls 7 [(0, .ref bq), (1, .int d), (2, .int k), (3, .int (oI (bst (cs_plP pf pk d k) pf i))), (4, .int (bfr pf (bst (cs_plP pf pk d k) pf i))), (5, .int (nI i))] → W p l e rmX7_planInForce s m ([.ref bq, .int d, .int k] : List Value).toArray below meth c H locs 0 0 (MQ below (mp_Q G.1 A (fun r M1 => r = some (.int (oI (bst (cs_plP pf pk d k) pf pn))) ∧ M1 = M)) ([.ref bq, .int d, .int k] : List Value).toArray s 0 0 A) (F0 m 8 ls []) := by
    intro kk
    induction kk with
    | zero => intro i ls H locs hk; exact absurd hk (Nat.not_lt_zero _)
    | succ kk ih =>
      intro i ls H locs hk hi hM hS hl
      refine lv_iload hx hb dX7_planInForce_8 (lv_at hl 5 rfl) ?_
      refine lv_aload_n hx hb dX7_planInForce_10 rfl (lv_at hl 0 rfl) ?_
      refine va_get (D := G.1) (C := RX7) (T := TX7) (N := 9) (ci := 8) hx hb hts hin_wsX70 hown hC.1 (hM.one hB.O) 0 rfl rfl 1 (by decide) fl_16 (fun _ z => z) rfl dX7_planInForce_11 ?_
      refine mp_calli (va_runV (As := []) (rest := [.int (nI i)]) ⟨hx, hb, hml, hown, hts⟩ (c_size l X G A (M) hB.L1) (cwV 0 hts gX7_planInForce_Jx4a65c_size_8abf5 rfl rfl rfl (by decide +kernel) ⟨Nat.le_of_ble_eq_true rfl, Nat.le_of_ble_eq_true rfl⟩) (mp_preV hC hS hM (mp_recvL hC.1 hM hB.L1)) rfl rfl hl.1 rfl (lv_room (Nat.le_of_ble_eq_true rfl)) dX7_planInForce_14 ⟨Nat.le_of_ble_eq_true rfl, Nat.le_of_ble_eq_true rfl⟩) hS (fun H locs hM hS => ?_)
      refine lv_icmp_ge (tgt := 78) hx hb dX7_planInForce_17 (by decide) (fun c1 => ?_) (fun c1 => ?_)
      · have c1 := nn_le (a := pn) (b := i) (by omega) (by omega) c1
        refine lv_iload_n hx hb dX7_planInForce_78 rfl (lv_at hl 3 rfl) ?_
        exact mp_iret hx hb hr hlocks (Nat.le_of_ble_eq_true rfl) (Nat.le_of_ble_eq_true rfl) hM hS dX7_planInForce_79 (⟨by rw [show i = pn by omega], rfl⟩)
      · have c1 := nn_nle (a := pn) (b := i) (by omega) (by omega) c1
        refine lv_aload_n hx hb dX7_planInForce_20 rfl (lv_at hl 0 rfl) ?_
        refine va_get (D := G.1) (C := RX7) (T := TX7) (N := 9) (ci := 8) hx hb hts hin_wsX70 hown hC.1 (hM.one hB.O) 0 rfl rfl 1 (by decide) fl_16 (fun _ z => z) rfl dX7_planInForce_21 ?_
        refine lv_iload hx hb dX7_planInForce_24 (lv_at hl 5 rfl) ?_
        refine mp_callr (va_runV (As := [.int (nI i)]) (rest := []) ⟨hx, hb, hml, hown, hts⟩ (c_get l X G A (M) hB.L1 i (by omega)) (cwV 1 hts gX7_planInForce_Jx4a65c_get_915e3 rfl rfl rfl (by decide +kernel) ⟨Nat.le_of_ble_eq_true rfl, Nat.le_of_ble_eq_true rfl⟩) (mp_preV hC hS hM (mp_recvL hC.1 hM hB.L1)) rfl rfl hl.1 rfl (lv_room (Nat.le_of_ble_eq_true rfl)) dX7_planInForce_26 ⟨Nat.le_of_ble_eq_true rfl, Nat.le_of_ble_eq_true rfl⟩) hS (fun H locs hM hS => ?_)
        obtain ⟨zl_i, za_i, hP_i, hL_i, hz8_i, hZ_i⟩ := hB.P (i := i) (by omega)
        refine va_castS hx hb hown cl_108 (hC.1.1 4 (RX3, TX3, 3) rfl).2 (mp_recv hC.1 hM hP_i (r := (RX3, TX3, 3)) rfl) dX7_planInForce_29 ?_
        refine lv_astore (lv' := [(6, .ref (pa i)), (0, .ref bq), (1, .int d), (2, .int k), (3, .int (oI (bst (cs_plP pf pk d k) pf i))), (4, .int (bfr pf (bst (cs_plP pf pk d k) pf i))), (5, .int (nI i))]) hx hb dX7_planInForce_32 hl (by decide) rfl (fun ls hl => ?_)
        refine lv_aload hx hb dX7_planInForce_34 (lv_at hl 0 rfl) ?_
        refine va_getN (D := G.1) (C := RX3) (T := TX3) (N := 3) (ci := 4) hx hb hts hin_wsX30 hown hC.1 (hM.one hP_i) 0 rfl rfl 1 (by decide) (va_Nw.use rfl nf_142) (fun _ z => z) rfl dX7_planInForce_36 ?_
        refine lv_iload_n hx hb dX7_planInForce_39 rfl (lv_at hl 3 rfl) ?_
        refine lv_icmp_gt (tgt := 72) hx hb dX7_planInForce_40 (by decide) (fun c3 => ?_) (fun c3 => ?_)
        · have c3 := c3
          refine lv_iinc (v := nI (i + 1)) (lv' := [(5, .int (nI (i + 1))), (6, .ref (pa i)), (0, .ref bq), (1, .int d), (2, .int k), (3, .int (oI (bst (cs_plP pf pk d k) pf i))), (4, .int (bfr pf (bst (cs_plP pf pk d k) pf i)))]) hx hb dX7_planInForce_72 hl (k := 6) rfl (nI_1 i) (by decide) rfl (fun ls hl => ?_)
          refine lv_goto (tgt := 8) hx hb dX7_planInForce_75 (by decide) ?_
          exact ih (i + 1) ls _ _ (by omega) (by omega) hM hS (by rw [bst_no (fun z => absurd z.1.2 (i_nle.mpr c3))]; exact (lv_sub hl [2, 3, 4, 5, 6, 0] rfl))
        · have c3 := c3
          refine lv_aload hx hb dX7_planInForce_43 (lv_at hl 0 rfl) ?_
          refine va_getN (D := G.1) (C := RX3) (T := TX3) (N := 3) (ci := 4) hx hb hts hin_wsX30 hown hC.1 (hM.one hP_i) 0 rfl rfl 0 (by decide) (va_Nw.use rfl nf_145) (fun _ z => z) rfl dX7_planInForce_45 ?_
          refine lv_iload_n hx hb dX7_planInForce_48 rfl (lv_at hl 2 rfl) ?_
          refine lv_icmp_gt (tgt := 72) hx hb dX7_planInForce_49 (by decide) (fun c4 => ?_) (fun c4 => ?_)
          · have c4 := c4
            refine lv_iinc (v := nI (i + 1)) (lv' := [(5, .int (nI (i + 1))), (6, .ref (pa i)), (0, .ref bq), (1, .int d), (2, .int k), (3, .int (oI (bst (cs_plP pf pk d k) pf i))), (4, .int (bfr pf (bst (cs_plP pf pk d k) pf i)))]) hx hb dX7_planInForce_72 hl (k := 6) rfl (nI_1 i) (by decide) rfl (fun ls hl => ?_)
            refine lv_goto (tgt := 8) hx hb dX7_planInForce_75 (by decide) ?_
            exact ih (i + 1) ls _ _ (by omega) (by omega) hM hS (by rw [bst_no (fun z => absurd z.1.1 (i_nle.mpr c4))]; exact (lv_sub hl [2, 3, 4, 5, 6, 0] rfl))
          · have c4 := c4
            refine lv_aload hx hb dX7_planInForce_52 (lv_at hl 0 rfl) ?_
            refine va_getN (D := G.1) (C := RX3) (T := TX3) (N := 3) (ci := 4) hx hb hts hin_wsX30 hown hC.1 (hM.one hP_i) 0 rfl rfl 0 (by decide) (va_Nw.use rfl nf_145) (fun _ z => z) rfl dX7_planInForce_54 ?_
            refine lv_iload hx hb dX7_planInForce_57 (lv_at hl 5 rfl) ?_
            refine lv_icmp_lt (tgt := 72) hx hb dX7_planInForce_59 (by decide) (fun c5 => ?_) (fun c5 => ?_)
            · have c5 := c5
              refine lv_iinc (v := nI (i + 1)) (lv' := [(5, .int (nI (i + 1))), (6, .ref (pa i)), (0, .ref bq), (1, .int d), (2, .int k), (3, .int (oI (bst (cs_plP pf pk d k) pf i))), (4, .int (bfr pf (bst (cs_plP pf pk d k) pf i)))]) hx hb dX7_planInForce_72 hl (k := 6) rfl (nI_1 i) (by decide) rfl (fun ls hl => ?_)
              refine lv_goto (tgt := 8) hx hb dX7_planInForce_75 (by decide) ?_
              exact ih (i + 1) ls _ _ (by omega) (by omega) hM hS (by rw [bf_no (hB.pf0 (i := i) (by omega)).1 c5]; exact (lv_sub hl [2, 3, 4, 5, 6, 0] rfl))
            · have c5 := c5
              refine lv_iload hx hb dX7_planInForce_62 (lv_at hl 6 rfl) ?_
              refine lv_istore_n (lv' := [(3, .int (nI i)), (6, .ref (pa i)), (0, .ref bq), (1, .int d), (2, .int k), (4, .int (bfr pf (bst (cs_plP pf pk d k) pf i))), (5, .int (nI i))]) hx hb dX7_planInForce_64 rfl hl (by decide) rfl (fun ls hl => ?_)
              refine lv_aload hx hb dX7_planInForce_65 (lv_at hl 1 rfl) ?_
              refine va_getN (D := G.1) (C := RX3) (T := TX3) (N := 3) (ci := 4) hx hb hts hin_wsX30 hown hC.1 (hM.one hP_i) 0 rfl rfl 0 (by decide) (va_Nw.use rfl nf_145) (fun _ z => z) rfl dX7_planInForce_67 ?_
              refine lv_istore (lv' := [(4, .int (pf i)), (3, .int (nI i)), (6, .ref (pa i)), (0, .ref bq), (1, .int d), (2, .int k), (5, .int (nI i))]) hx hb dX7_planInForce_70 hl (by decide) rfl (fun ls hl => ?_)
              refine lv_iinc (v := nI (i + 1)) (lv' := [(5, .int (nI (i + 1))), (4, .int (pf i)), (3, .int (nI i)), (6, .ref (pa i)), (0, .ref bq), (1, .int d), (2, .int k)]) hx hb dX7_planInForce_72 hl (k := 6) rfl (nI_1 i) (by decide) rfl (fun ls hl => ?_)
              refine lv_goto (tgt := 8) hx hb dX7_planInForce_75 (by decide) ?_
              exact ih (i + 1) ls _ _ (by omega) (by omega) hM hS (by rw [bf_up ⟨i_nlt.mp c4, i_nlt.mp c3⟩ c5]; exact (lv_sub hl [4, 5, 6, 2, 1, 0] rfl))
  exact LP8 _ 0 ls _ _ (Nat.lt_succ_self _) (Nat.zero_le _) hM hS (lv_sub hl [3, 4, 5, 2, 1, 0] rfl)
abbrev rmX7_plan : Room := { frames := 4, cells := 0, slots := 0, locals := 90 }
set_option maxHeartbeats 4000000 in
set_option maxRecDepth 100000 in
theorem c_X7_plan (l : Launch) (X : mp_X) (G : mp_G) (A : Nat → Prop) (M : mp_M) (bq : Nat) (l0 : Nat) (l1 : Nat) (l2 : Nat) (l3 : Nat) (tp : Nat) (tz : Nat) (td : Int32) (fl : Int32) (tt : Nat → Int32) (pl : Nat) (ra : Nat → Nat) (Rg : Nat → rg_R) (pn : Nat) (pa : Nat → Nat) (pf : Nat → Int32) (pk : Nat → Int32) (zc : Nat → Nat) (zz : Nat → Nat → zr) (ap : Nat) (aa : Nat → Nat) (dq : Nat → Nat) (av : Nat → Nat → Int32) (dv : Nat → ds_D) (nh : Nat) (ah : Nat → Nat) (vh : Nat → Nat → Int32) (hB : BN G X M bq l0 l1 l2 l3 tp tz td fl tt pl ra Rg pn pa pf pk zc zz ap aa dq av dv nh ah vh) (d k : Int32) : mp_Met l X G A yX7_plan wsX7_plan rmX7_plan ([.ref bq, .int d, .int k] : List Value) M (fun r M1 => r = some (.int (if pB (md_in d 0 9999 ∧ md_in k 0 9999) then oI (bst (cs_plP pf pk d k) pf pn) else -1)) ∧ M1 = M) 0 0 := by
  refine mp_ofW (cc := cX7_plan) (maxL := 3) (ret := (some .int)) (by decide) rfl (Nat.le_of_ble_eq_true rfl) ?_
  intro p e s m below meth c ls hx hb hr hts hown hlocks hnm hml hC hM hS hl
  have hl : lv_has ls 3 [(0, .ref bq), (1, .int d), (2, .int k)] := hl
  have hown : s.vm.findClass RX7 = some m.cls := hown
  have hb9 := hB.b
  refine lv_iload_n hx hb dX7_plan_0 rfl (lv_at hl 1 rfl) ?_
  refine mp_calli (va_runS (As := [.int d]) (rest := []) ⟨hx, hb, hml, hown, hts⟩ (c_X7_isDay l X G A (M) d) (va_cwS 1 hts gX7_plan_X7_isDay rfl rfl rfl (by decide +kernel) ⟨Nat.le_of_ble_eq_true rfl, Nat.le_of_ble_eq_true rfl⟩) (mp_preS hC hS hM) rfl rfl hl.1 rfl (lv_room (Nat.le_of_ble_eq_true rfl)) dX7_plan_1 ⟨Nat.le_of_ble_eq_true rfl, Nat.le_of_ble_eq_true rfl⟩) hS (fun H locs hM hS => ?_)
  refine lv_if_eq (tgt := 23) hx hb dX7_plan_4 (by decide) (fun c1 => ?_) (fun c1 => ?_)
  · have c1 : (pB (md_in d 0 9999)) = false := bI_0.mp c1
    refine lv_iconst (v := (-1 : Int32)) hx hb dX7_plan_23 (by decide) ?_
    exact mp_iret hx hb hr hlocks (Nat.le_of_ble_eq_true rfl) (Nat.le_of_ble_eq_true rfl) hM hS dX7_plan_24 (⟨by rw [pB_f (show ¬ (md_in d 0 9999 ∧ md_in k 0 9999) from fun z => pB_not.mp c1 z.1)]; rfl, rfl⟩)
  · have c1 : (pB (md_in d 0 9999)) = true := bI_1.mp c1
    refine lv_iload_n hx hb dX7_plan_7 rfl (lv_at hl 2 rfl) ?_
    refine mp_calli (va_runS (As := [.int k]) (rest := []) ⟨hx, hb, hml, hown, hts⟩ (c_X7_isDay l X G A (M) k) (va_cwS 1 hts gX7_plan_X7_isDay rfl rfl rfl (by decide +kernel) ⟨Nat.le_of_ble_eq_true rfl, Nat.le_of_ble_eq_true rfl⟩) (mp_preS hC hS hM) rfl rfl hl.1 rfl (lv_room (Nat.le_of_ble_eq_true rfl)) dX7_plan_8 ⟨Nat.le_of_ble_eq_true rfl, Nat.le_of_ble_eq_true rfl⟩) hS (fun H locs hM hS => ?_)
    refine lv_if_eq (tgt := 23) hx hb dX7_plan_11 (by decide) (fun c3 => ?_) (fun c3 => ?_)
    · have c3 : (pB (md_in k 0 9999)) = false := bI_0.mp c3
      refine lv_iconst (v := (-1 : Int32)) hx hb dX7_plan_23 (by decide) ?_
      exact mp_iret hx hb hr hlocks (Nat.le_of_ble_eq_true rfl) (Nat.le_of_ble_eq_true rfl) hM hS dX7_plan_24 (⟨by rw [pB_f (show ¬ (md_in d 0 9999 ∧ md_in k 0 9999) from fun z => pB_not.mp c3 z.2)]; rfl, rfl⟩)
    · have c3 : (pB (md_in k 0 9999)) = true := bI_1.mp c3
      refine lv_aload_n hx hb dX7_plan_14 rfl (lv_at hl 0 rfl) ?_
      refine lv_iload_n hx hb dX7_plan_15 rfl (lv_at hl 1 rfl) ?_
      refine lv_iload_n hx hb dX7_plan_16 rfl (lv_at hl 2 rfl) ?_
      refine mp_calli (va_runV (As := [.int d, .int k]) (rest := []) ⟨hx, hb, hml, hown, hts⟩ (c_X7_planInForce l X G A (M) bq l0 l1 l2 l3 tp tz td fl tt pl ra Rg pn pa pf pk zc zz ap aa dq av dv nh ah vh hB d k) (cwV 2 hts gX7_plan_X7_planInForce rfl rfl rfl (by decide +kernel) ⟨Nat.le_of_ble_eq_true rfl, Nat.le_of_ble_eq_true rfl⟩) (mp_preV hC hS hM (mp_recv hC.1 hM hB.O (r := (RX7, TX7, 9)) rfl)) rfl rfl hl.1 rfl (lv_room (Nat.le_of_ble_eq_true rfl)) dX7_plan_17 ⟨Nat.le_of_ble_eq_true rfl, Nat.le_of_ble_eq_true rfl⟩) hS (fun H locs hM hS => ?_)
      refine lv_goto (tgt := 24) hx hb dX7_plan_20 (by decide) ?_
      exact mp_iret hx hb hr hlocks (Nat.le_of_ble_eq_true rfl) (Nat.le_of_ble_eq_true rfl) hM hS dX7_plan_24 (⟨by rw [pB_t (show md_in d 0 9999 ∧ md_in k 0 9999 from ⟨pB_iff.mp c1, pB_iff.mp c3⟩)]; rfl, rfl⟩)
abbrev rmX7_zone : Room := { frames := 5, cells := 0, slots := 0, locals := 105 }
set_option maxHeartbeats 4000000 in
set_option maxRecDepth 100000 in
theorem c_X7_zone (l : Launch) (X : mp_X) (G : mp_G) (A : Nat → Prop) (M : mp_M) (bq : Nat) (l0 : Nat) (l1 : Nat) (l2 : Nat) (l3 : Nat) (tp : Nat) (tz : Nat) (td : Int32) (fl : Int32) (tt : Nat → Int32) (pl : Nat) (ra : Nat → Nat) (Rg : Nat → rg_R) (pn : Nat) (pa : Nat → Nat) (pf : Nat → Int32) (pk : Nat → Int32) (zc : Nat → Nat) (zz : Nat → Nat → zr) (ap : Nat) (aa : Nat → Nat) (dq : Nat → Nat) (av : Nat → Nat → Int32) (dv : Nat → ds_D) (nh : Nat) (ah : Nat → Nat) (vh : Nat → Nat → Int32) (hB : BN G X M bq l0 l1 l2 l3 tp tz td fl tt pl ra Rg pn pa pf pk zc zz ap aa dq av dv nh ah vh) (q1 q2 w : Int32) : mp_Met l X G A yX7_zone wsX7_zone rmX7_zone ([.ref bq, .int q1, .int q2, .int w] : List Value) M (fun r M1 => r = some (.int (cs_zone pl pn zc zz q1 q2 w)) ∧ M1 = M) 0 0 := by
  refine mp_ofW (cc := cX7_zone) (maxL := 7) (ret := (some .int)) (by decide) rfl (Nat.le_of_ble_eq_true rfl) ?_
  intro p e s m below meth c ls hx hb hr hts hown hlocks hnm hml hC hM hS hl
  have hl : lv_has ls 7 [(0, .ref bq), (1, .int q1), (2, .int q2), (3, .int w)] := hl
  have hown : s.vm.findClass RX7 = some m.cls := hown
  have hb9 := hB.b
  refine lv_aload_n hx hb dX7_zone_0 rfl (lv_at hl 0 rfl) ?_
  refine lv_iload_n hx hb dX7_zone_1 rfl (lv_at hl 1 rfl) ?_
  by_cases hq1 : isAt q1 pn
  · skip
    obtain ⟨i, hi, ei⟩ := id hq1
    have ni : q1.toNatClampNeg = i := by rw [ei]; exact nI_clamp (by omega)
    refine mp_top (nI i) ei ?_
    refine mp_callr (va_runV (As := [.int (nI i)]) (rest := []) ⟨hx, hb, hml, hown, hts⟩ (c_X7_planAt l X G A (M) bq l0 l1 l2 l3 tp tz td fl tt pl ra Rg pn pa pf pk zc zz ap aa dq av dv nh ah vh hB i hi) (cwV 1 hts gX7_zone_X7_planAt rfl rfl rfl (by decide +kernel) ⟨Nat.le_of_ble_eq_true rfl, Nat.le_of_ble_eq_true rfl⟩) (mp_preV hC hS hM (mp_recv hC.1 hM hB.O (r := (RX7, TX7, 9)) rfl)) rfl rfl hl.1 rfl (lv_room (Nat.le_of_ble_eq_true rfl)) dX7_zone_2 ⟨Nat.le_of_ble_eq_true rfl, Nat.le_of_ble_eq_true rfl⟩) hS (fun H locs hM hS => ?_)
    obtain ⟨zl_i, za_i, hP_i, hL_i, hz8_i, hZ_i⟩ := hB.P (i := i) (by omega)
    refine lv_astore (lv' := [(4, .ref (pa i)), (0, .ref bq), (1, .int q1), (2, .int q2), (3, .int w)]) hx hb dX7_zone_5 hl (by decide) rfl (fun ls hl => ?_)
    refine lv_aload hx hb dX7_zone_7 (lv_at hl 0 rfl) ?_
    refine lv_ifnull hx hb dX7_zone_9 ?_
    refine lv_aload_n hx hb dX7_zone_12 rfl (lv_at hl 1 rfl) ?_
    refine lv_iload_n hx hb dX7_zone_13 rfl (lv_at hl 3 rfl) ?_
    by_cases hq2 : isAt q2 pl
    · skip
      obtain ⟨j, hj, ej⟩ := id hq2
      have nj : q2.toNatClampNeg = j := by rw [ej]; exact nI_clamp (by omega)
      refine mp_top (nI j) ej ?_
      refine mp_callr (va_runV (As := [.int (nI j)]) (rest := []) ⟨hx, hb, hml, hown, hts⟩ (c_X7_ringAt l X G A (M) bq l0 l1 l2 l3 tp tz td fl tt pl ra Rg pn pa pf pk zc zz ap aa dq av dv nh ah vh hB j hj) (cwV 1 hts gX7_zone_X7_ringAt rfl rfl rfl (by decide +kernel) ⟨Nat.le_of_ble_eq_true rfl, Nat.le_of_ble_eq_true rfl⟩) (mp_preV hC hS hM (mp_recv hC.1 hM hB.O (r := (RX7, TX7, 9)) rfl)) rfl rfl hl.1 rfl (lv_room (Nat.le_of_ble_eq_true rfl)) dX7_zone_14 ⟨Nat.le_of_ble_eq_true rfl, Nat.le_of_ble_eq_true rfl⟩) hS (fun H locs hM hS => ?_)
      obtain ⟨ax_j, ay_j, hR_j, hX_j, hY_j, hs_j⟩ := hB.R (i := j) (by omega)
      refine lv_ifnonnull (tgt := 22) hx hb dX7_zone_17 (by decide) ?_
      refine lv_aload hx hb dX7_zone_22 (lv_at hl 0 rfl) ?_
      refine lv_iload_n hx hb dX7_zone_24 rfl (lv_at hl 3 rfl) ?_
      refine mp_calli (va_runV (As := [.int q2]) (rest := []) ⟨hx, hb, hml, hown, hts⟩ (c_X3_zoneNaming l X G A (M) (pa i) zl_i (zc i) (pf i) (pk i) za_i (zz i) (11, i, 0) (12, i, 0) (13, i, 0) hP_i hL_i hz8_i (fun z hz => ⟨_, hZ_i z hz⟩) q2) (cwV 1 hts gX7_zone_X3_zoneNaming rfl rfl rfl (by decide +kernel) ⟨Nat.le_of_ble_eq_true rfl, Nat.le_of_ble_eq_true rfl⟩) (mp_preV hC hS hM (mp_recv hC.1 hM hP_i (r := (RX3, TX3, 3)) rfl)) rfl rfl hl.1 rfl (lv_room (Nat.le_of_ble_eq_true rfl)) dX7_zone_25 ⟨Nat.le_of_ble_eq_true rfl, Nat.le_of_ble_eq_true rfl⟩) hS (fun H locs hM hS => ?_)
      refine lv_istore (lv' := [(5, .int (oI (fst (cs_znP (zz i) q2) (zc i)))), (4, .ref (pa i)), (0, .ref bq), (1, .int q1), (2, .int q2), (3, .int w)]) hx hb dX7_zone_28 hl (by decide) rfl (fun ls hl => ?_)
      refine lv_aload hx hb dX7_zone_30 (lv_at hl 1 rfl) ?_
      refine lv_iload hx hb dX7_zone_32 (lv_at hl 0 rfl) ?_
      rcases hf : fst (cs_znP (zz i) q2) (zc i) with _ | z
      · have hfe : oI (fst (cs_znP (zz i) q2) (zc i)) = (-1 : Int32) := by rw [hf]; rfl
        refine mp_top (-1 : Int32) (by first | exact hfe | rfl) ?_
        rw [hfe] at hl
        refine mp_calln (va_runV (As := [.int (-1 : Int32)]) (rest := []) ⟨hx, hb, hml, hown, hts⟩ (c_X3_zoneAt_n l X G A (M) (pa i) zl_i (zc i) (pf i) (pk i) za_i (zz i) (11, i, 0) (12, i, 0) (13, i, 0) hP_i hL_i hz8_i (fun z hz => ⟨_, hZ_i z hz⟩) (-1) (isAt_m1 (by omega))) (cwV 1 hts gX7_zone_X3_zoneAt rfl rfl rfl (by decide +kernel) ⟨Nat.le_of_ble_eq_true rfl, Nat.le_of_ble_eq_true rfl⟩) (mp_preV hC hS hM (mp_recv hC.1 hM hP_i (r := (RX3, TX3, 3)) rfl)) rfl rfl hl.1 rfl (lv_room (Nat.le_of_ble_eq_true rfl)) dX7_zone_34 ⟨Nat.le_of_ble_eq_true rfl, Nat.le_of_ble_eq_true rfl⟩) hS (fun H locs hM hS => ?_)
        refine lv_astoreN (lv' := [(6, .null), (5, .int (-1 : Int32)), (4, .ref (pa i)), (0, .ref bq), (1, .int q1), (2, .int q2), (3, .int w)]) hx hb dX7_zone_37 hl (by decide) rfl (fun ls hl => ?_)
        refine lv_aloadN hx hb dX7_zone_39 (lv_at hl 0 rfl) ?_
        refine lv_ifnullN (tgt := 48) hx hb dX7_zone_41 (by decide) ?_
        refine lv_iload hx hb dX7_zone_48 (lv_at hl 1 rfl) ?_
        exact mp_iret hx hb hr hlocks (Nat.le_of_ble_eq_true rfl) (Nat.le_of_ble_eq_true rfl) hM hS dX7_zone_50 (⟨by rw [cs_zone, pB_t (show isAt q1 pn ∧ isAt q2 pl from ⟨hq1, hq2⟩), if_pos rfl, ni, hf], rfl⟩)
      · have hfe : oI (fst (cs_znP (zz i) q2) (zc i)) = nI z := by rw [hf]; rfl
        have hz := (fst_some hf).1
        refine mp_top (nI z) (by first | exact hfe | rfl) ?_
        rw [hfe] at hl
        refine mp_callr (va_runV (As := [.int (nI z)]) (rest := []) ⟨hx, hb, hml, hown, hts⟩ (c_X3_zoneAt l X G A (M) (pa i) zl_i (zc i) (pf i) (pk i) za_i (zz i) (11, i, 0) (12, i, 0) (13, i, 0) hP_i hL_i hz8_i (fun z hz => ⟨_, hZ_i z hz⟩) z hz) (cwV 1 hts gX7_zone_X3_zoneAt rfl rfl rfl (by decide +kernel) ⟨Nat.le_of_ble_eq_true rfl, Nat.le_of_ble_eq_true rfl⟩) (mp_preV hC hS hM (mp_recv hC.1 hM hP_i (r := (RX3, TX3, 3)) rfl)) rfl rfl hl.1 rfl (lv_room (Nat.le_of_ble_eq_true rfl)) dX7_zone_34 ⟨Nat.le_of_ble_eq_true rfl, Nat.le_of_ble_eq_true rfl⟩) hS (fun H locs hM hS => ?_)
        refine lv_astore (lv' := [(6, .ref (za_i z)), (5, .int (nI z)), (4, .ref (pa i)), (0, .ref bq), (1, .int q1), (2, .int q2), (3, .int w)]) hx hb dX7_zone_37 hl (by decide) rfl (fun ls hl => ?_)
        refine lv_aload hx hb dX7_zone_39 (lv_at hl 0 rfl) ?_
        refine lv_ifnull hx hb dX7_zone_41 ?_
        refine lv_iload_n hx hb dX7_zone_44 rfl (lv_at hl 6 rfl) ?_
        refine lv_if_ne (tgt := 51) hx hb dX7_zone_45 (by decide) (fun c3 => ?_) (fun c3 => ?_)
        · have c3 := c3
          refine lv_aload hx hb dX7_zone_51 (lv_at hl 0 rfl) ?_
          refine lv_iload_n hx hb dX7_zone_53 rfl (lv_at hl 6 rfl) ?_
          refine mp_calli (va_runV (As := [.int w]) (rest := []) ⟨hx, hb, hml, hown, hts⟩ (c_X6_tell l X G A (M) (za_i z) (zrv (zz i z)) ⟨_, hZ_i z hz⟩ w) (cwV 1 hts gX7_zone_X6_tell rfl rfl rfl (by decide +kernel) ⟨Nat.le_of_ble_eq_true rfl, Nat.le_of_ble_eq_true rfl⟩) (mp_preV hC hS hM (mp_recv hC.1 hM (hZ_i z hz) (r := (RX6, TX6, 6)) rfl)) rfl rfl hl.1 rfl (lv_room (Nat.le_of_ble_eq_true rfl)) dX7_zone_54 ⟨Nat.le_of_ble_eq_true rfl, Nat.le_of_ble_eq_true rfl⟩) hS (fun H locs hM hS => ?_)
          exact mp_iret hx hb hr hlocks (Nat.le_of_ble_eq_true rfl) (Nat.le_of_ble_eq_true rfl) hM hS dX7_zone_57 (⟨by rw [cs_zone, pB_t (show isAt q1 pn ∧ isAt q2 pl from ⟨hq1, hq2⟩), if_pos rfl, ni, hf]; show _ = some (Value.int (if w = 0 then _ else _)); rw [if_neg c3], rfl⟩)
        · have c3 := c3
          refine lv_iload hx hb dX7_zone_48 (lv_at hl 1 rfl) ?_
          exact mp_iret hx hb hr hlocks (Nat.le_of_ble_eq_true rfl) (Nat.le_of_ble_eq_true rfl) hM hS dX7_zone_50 (⟨by rw [cs_zone, pB_t (show isAt q1 pn ∧ isAt q2 pl from ⟨hq1, hq2⟩), if_pos rfl, ni, hf]; show _ = some (Value.int (if w = 0 then _ else _)); rw [if_pos c3], rfl⟩)
    · skip
      refine mp_calln (va_runV (As := [.int q2]) (rest := []) ⟨hx, hb, hml, hown, hts⟩ (c_X7_ringAt_n l X G A (M) bq l0 l1 l2 l3 tp tz td fl tt pl ra Rg pn pa pf pk zc zz ap aa dq av dv nh ah vh hB q2 hq2) (cwV 1 hts gX7_zone_X7_ringAt rfl rfl rfl (by decide +kernel) ⟨Nat.le_of_ble_eq_true rfl, Nat.le_of_ble_eq_true rfl⟩) (mp_preV hC hS hM (mp_recv hC.1 hM hB.O (r := (RX7, TX7, 9)) rfl)) rfl rfl hl.1 rfl (lv_room (Nat.le_of_ble_eq_true rfl)) dX7_zone_14 ⟨Nat.le_of_ble_eq_true rfl, Nat.le_of_ble_eq_true rfl⟩) hS (fun H locs hM hS => ?_)
      refine lv_ifnonnullN hx hb dX7_zone_17 ?_
      refine lv_iconst (v := (-1 : Int32)) hx hb dX7_zone_20 (by decide) ?_
      exact mp_iret hx hb hr hlocks (Nat.le_of_ble_eq_true rfl) (Nat.le_of_ble_eq_true rfl) hM hS dX7_zone_21 (⟨by rw [cs_zone, pB_f (fun z => hq2 z.2)]; rfl, rfl⟩)
  · skip
    refine mp_calln (va_runV (As := [.int q1]) (rest := []) ⟨hx, hb, hml, hown, hts⟩ (c_X7_planAt_n l X G A (M) bq l0 l1 l2 l3 tp tz td fl tt pl ra Rg pn pa pf pk zc zz ap aa dq av dv nh ah vh hB q1 hq1) (cwV 1 hts gX7_zone_X7_planAt rfl rfl rfl (by decide +kernel) ⟨Nat.le_of_ble_eq_true rfl, Nat.le_of_ble_eq_true rfl⟩) (mp_preV hC hS hM (mp_recv hC.1 hM hB.O (r := (RX7, TX7, 9)) rfl)) rfl rfl hl.1 rfl (lv_room (Nat.le_of_ble_eq_true rfl)) dX7_zone_2 ⟨Nat.le_of_ble_eq_true rfl, Nat.le_of_ble_eq_true rfl⟩) hS (fun H locs hM hS => ?_)
    refine lv_astoreN (lv' := [(4, .null), (0, .ref bq), (1, .int q1), (2, .int q2), (3, .int w)]) hx hb dX7_zone_5 hl (by decide) rfl (fun ls hl => ?_)
    refine lv_aloadN hx hb dX7_zone_7 (lv_at hl 0 rfl) ?_
    refine lv_ifnullN (tgt := 20) hx hb dX7_zone_9 (by decide) ?_
    refine lv_iconst (v := (-1 : Int32)) hx hb dX7_zone_20 (by decide) ?_
    exact mp_iret hx hb hr hlocks (Nat.le_of_ble_eq_true rfl) (Nat.le_of_ble_eq_true rfl) hM hS dX7_zone_21 (⟨by rw [cs_zone, pB_f (fun z => hq1 z.1)]; rfl, rfl⟩)
abbrev rmX7_zoneInForce : Room := { frames := 4, cells := 0, slots := 0, locals := 90 }
set_option maxHeartbeats 4000000 in
set_option maxRecDepth 100000 in
theorem c_X7_zoneInForce (l : Launch) (X : mp_X) (G : mp_G) (A : Nat → Prop) (M : mp_M) (bq : Nat) (l0 : Nat) (l1 : Nat) (l2 : Nat) (l3 : Nat) (tp : Nat) (tz : Nat) (td : Int32) (fl : Int32) (tt : Nat → Int32) (pl : Nat) (ra : Nat → Nat) (Rg : Nat → rg_R) (pn : Nat) (pa : Nat → Nat) (pf : Nat → Int32) (pk : Nat → Int32) (zc : Nat → Nat) (zz : Nat → Nat → zr) (ap : Nat) (aa : Nat → Nat) (dq : Nat → Nat) (av : Nat → Nat → Int32) (dv : Nat → ds_D) (nh : Nat) (ah : Nat → Nat) (vh : Nat → Nat → Int32) (hB : BN G X M bq l0 l1 l2 l3 tp tz td fl tt pl ra Rg pn pa pf pk zc zz ap aa dq av dv nh ah vh) (q d k : Int32) : mp_Met l X G A yX7_zoneInForce wsX7_zoneInForce rmX7_zoneInForce ([.ref bq, .int q, .int d, .int k] : List Value) M (fun r M1 => (cs_zo pn pf pk zc zz q d k = none ∧ r = some .null ∧ M1 = M) ∨ ∃ (i z aq : Nat) (kz : mp_N), cs_zo pn pf pk zc zz q d k = some (i, z) ∧ r = some (.ref aq) ∧ M kz = some (aq, .inr (7, zn_fs (zrv (zz i z)))) ∧ M1 = M) 0 0 := by
  refine mp_ofW (cc := cX7_zoneInForce) (maxL := 5) (ret := (some (.object "PlanningBench$Zone"))) (by decide) rfl (Nat.le_of_ble_eq_true rfl) ?_
  intro p e s m below meth c ls hx hb hr hts hown hlocks hnm hml hC hM hS hl
  have hl : lv_has ls 5 [(0, .ref bq), (1, .int q), (2, .int d), (3, .int k)] := hl
  have hown : s.vm.findClass RX7 = some m.cls := hown
  have hb9 := hB.b
  refine lv_aload_n hx hb dX7_zoneInForce_0 rfl (lv_at hl 0 rfl) ?_
  refine lv_aload_n hx hb dX7_zoneInForce_1 rfl (lv_at hl 0 rfl) ?_
  refine lv_iload_n hx hb dX7_zoneInForce_2 rfl (lv_at hl 2 rfl) ?_
  refine lv_iload_n hx hb dX7_zoneInForce_3 rfl (lv_at hl 3 rfl) ?_
  refine mp_calli (va_runV (As := [.int d, .int k]) (rest := [.ref bq]) ⟨hx, hb, hml, hown, hts⟩ (c_X7_planInForce l X G A (M) bq l0 l1 l2 l3 tp tz td fl tt pl ra Rg pn pa pf pk zc zz ap aa dq av dv nh ah vh hB d k) (cwV 2 hts gX7_zoneInForce_X7_planInForce rfl rfl rfl (by decide +kernel) ⟨Nat.le_of_ble_eq_true rfl, Nat.le_of_ble_eq_true rfl⟩) (mp_preV hC hS hM (mp_recv hC.1 hM hB.O (r := (RX7, TX7, 9)) rfl)) rfl rfl hl.1 rfl (lv_room (Nat.le_of_ble_eq_true rfl)) dX7_zoneInForce_4 ⟨Nat.le_of_ble_eq_true rfl, Nat.le_of_ble_eq_true rfl⟩) hS (fun H locs hM hS => ?_)
  rcases hg : bst (cs_plP pf pk d k) pf pn with _ | i
  · have hge : oI (bst (cs_plP pf pk d k) pf pn) = (-1 : Int32) := by rw [hg]; rfl
    refine mp_top (-1 : Int32) (by first | exact hge | rfl) ?_
    refine mp_calln (va_runV (As := [.int (-1 : Int32)]) (rest := []) ⟨hx, hb, hml, hown, hts⟩ (c_X7_planAt_n l X G A (M) bq l0 l1 l2 l3 tp tz td fl tt pl ra Rg pn pa pf pk zc zz ap aa dq av dv nh ah vh hB (-1) (isAt_m1 (by omega))) (cwV 1 hts gX7_zoneInForce_X7_planAt rfl rfl rfl (by decide +kernel) ⟨Nat.le_of_ble_eq_true rfl, Nat.le_of_ble_eq_true rfl⟩) (mp_preV hC hS hM (mp_recv hC.1 hM hB.O (r := (RX7, TX7, 9)) rfl)) rfl rfl hl.1 rfl (lv_room (Nat.le_of_ble_eq_true rfl)) dX7_zoneInForce_7 ⟨Nat.le_of_ble_eq_true rfl, Nat.le_of_ble_eq_true rfl⟩) hS (fun H locs hM hS => ?_)
    refine lv_astoreN (lv' := [(4, .null), (0, .ref bq), (1, .int q), (2, .int d), (3, .int k)]) hx hb dX7_zoneInForce_10 hl (by decide) rfl (fun ls hl => ?_)
    refine lv_aloadN hx hb dX7_zoneInForce_12 (lv_at hl 0 rfl) ?_
    refine lv_ifnonnullN hx hb dX7_zoneInForce_14 ?_
    refine lv_null hx hb dX7_zoneInForce_17 ?_
    refine lv_goto (tgt := 32) hx hb dX7_zoneInForce_18 (by decide) ?_
    have hn : cs_zo pn pf pk zc zz q d k = none := by rw [cs_zo, hg]; rfl
    exact mp_aret hx hb hr hlocks (Nat.le_of_ble_eq_true rfl) (Nat.le_of_ble_eq_true rfl) hM hS dX7_zoneInForce_32 (by first | exact Or.inl ⟨_, rfl⟩ | exact Or.inr ⟨_, rfl⟩) (by first | exact Or.inl rfl | exact Or.inr ⟨_, rfl⟩) (Or.inl ⟨hn, rfl, rfl⟩)
  · have hge : oI (bst (cs_plP pf pk d k) pf pn) = nI i := by rw [hg]; rfl
    have hi := (bst_some hg).1
    refine mp_top (nI i) (by first | exact hge | rfl) ?_
    refine mp_callr (va_runV (As := [.int (nI i)]) (rest := []) ⟨hx, hb, hml, hown, hts⟩ (c_X7_planAt l X G A (M) bq l0 l1 l2 l3 tp tz td fl tt pl ra Rg pn pa pf pk zc zz ap aa dq av dv nh ah vh hB i hi) (cwV 1 hts gX7_zoneInForce_X7_planAt rfl rfl rfl (by decide +kernel) ⟨Nat.le_of_ble_eq_true rfl, Nat.le_of_ble_eq_true rfl⟩) (mp_preV hC hS hM (mp_recv hC.1 hM hB.O (r := (RX7, TX7, 9)) rfl)) rfl rfl hl.1 rfl (lv_room (Nat.le_of_ble_eq_true rfl)) dX7_zoneInForce_7 ⟨Nat.le_of_ble_eq_true rfl, Nat.le_of_ble_eq_true rfl⟩) hS (fun H locs hM hS => ?_)
    obtain ⟨zl_i, za_i, hP_i, hL_i, hz8_i, hZ_i⟩ := hB.P (i := i) (by omega)
    refine lv_astore (lv' := [(4, .ref (pa i)), (0, .ref bq), (1, .int q), (2, .int d), (3, .int k)]) hx hb dX7_zoneInForce_10 hl (by decide) rfl (fun ls hl => ?_)
    refine lv_aload hx hb dX7_zoneInForce_12 (lv_at hl 0 rfl) ?_
    refine lv_ifnonnull (tgt := 21) hx hb dX7_zoneInForce_14 (by decide) ?_
    refine lv_aload hx hb dX7_zoneInForce_21 (lv_at hl 0 rfl) ?_
    refine lv_aload hx hb dX7_zoneInForce_23 (lv_at hl 0 rfl) ?_
    refine lv_iload_n hx hb dX7_zoneInForce_25 rfl (lv_at hl 2 rfl) ?_
    refine mp_calli (va_runV (As := [.int q]) (rest := [.ref (pa i)]) ⟨hx, hb, hml, hown, hts⟩ (c_X3_zoneNaming l X G A (M) (pa i) zl_i (zc i) (pf i) (pk i) za_i (zz i) (11, i, 0) (12, i, 0) (13, i, 0) hP_i hL_i hz8_i (fun z hz => ⟨_, hZ_i z hz⟩) q) (cwV 1 hts gX7_zoneInForce_X3_zoneNaming rfl rfl rfl (by decide +kernel) ⟨Nat.le_of_ble_eq_true rfl, Nat.le_of_ble_eq_true rfl⟩) (mp_preV hC hS hM (mp_recv hC.1 hM hP_i (r := (RX3, TX3, 3)) rfl)) rfl rfl hl.1 rfl (lv_room (Nat.le_of_ble_eq_true rfl)) dX7_zoneInForce_26 ⟨Nat.le_of_ble_eq_true rfl, Nat.le_of_ble_eq_true rfl⟩) hS (fun H locs hM hS => ?_)
    rcases hf : fst (cs_znP (zz i) q) (zc i) with _ | z
    · have hfe : oI (fst (cs_znP (zz i) q) (zc i)) = (-1 : Int32) := by rw [hf]; rfl
      refine mp_top (-1 : Int32) (by first | exact hfe | rfl) ?_
      refine mp_calln (va_runV (As := [.int (-1 : Int32)]) (rest := []) ⟨hx, hb, hml, hown, hts⟩ (c_X3_zoneAt_n l X G A (M) (pa i) zl_i (zc i) (pf i) (pk i) za_i (zz i) (11, i, 0) (12, i, 0) (13, i, 0) hP_i hL_i hz8_i (fun z hz => ⟨_, hZ_i z hz⟩) (-1) (isAt_m1 (by omega))) (cwV 1 hts gX7_zoneInForce_X3_zoneAt rfl rfl rfl (by decide +kernel) ⟨Nat.le_of_ble_eq_true rfl, Nat.le_of_ble_eq_true rfl⟩) (mp_preV hC hS hM (mp_recv hC.1 hM hP_i (r := (RX3, TX3, 3)) rfl)) rfl rfl hl.1 rfl (lv_room (Nat.le_of_ble_eq_true rfl)) dX7_zoneInForce_29 ⟨Nat.le_of_ble_eq_true rfl, Nat.le_of_ble_eq_true rfl⟩) hS (fun H locs hM hS => ?_)
      have hn : cs_zo pn pf pk zc zz q d k = none := by rw [cs_zo, hg]; show (fst (cs_znP (zz i) q) (zc i)).map _ = none; rw [hf]; rfl
      exact mp_aret hx hb hr hlocks (Nat.le_of_ble_eq_true rfl) (Nat.le_of_ble_eq_true rfl) hM hS dX7_zoneInForce_32 (by first | exact Or.inl ⟨_, rfl⟩ | exact Or.inr ⟨_, rfl⟩) (by first | exact Or.inl rfl | exact Or.inr ⟨_, rfl⟩) (Or.inl ⟨hn, rfl, rfl⟩)
    · have hfe : oI (fst (cs_znP (zz i) q) (zc i)) = nI z := by rw [hf]; rfl
      have hz := (fst_some hf).1
      refine mp_top (nI z) (by first | exact hfe | rfl) ?_
      refine mp_callr (va_runV (As := [.int (nI z)]) (rest := []) ⟨hx, hb, hml, hown, hts⟩ (c_X3_zoneAt l X G A (M) (pa i) zl_i (zc i) (pf i) (pk i) za_i (zz i) (11, i, 0) (12, i, 0) (13, i, 0) hP_i hL_i hz8_i (fun z hz => ⟨_, hZ_i z hz⟩) z hz) (cwV 1 hts gX7_zoneInForce_X3_zoneAt rfl rfl rfl (by decide +kernel) ⟨Nat.le_of_ble_eq_true rfl, Nat.le_of_ble_eq_true rfl⟩) (mp_preV hC hS hM (mp_recv hC.1 hM hP_i (r := (RX3, TX3, 3)) rfl)) rfl rfl hl.1 rfl (lv_room (Nat.le_of_ble_eq_true rfl)) dX7_zoneInForce_29 ⟨Nat.le_of_ble_eq_true rfl, Nat.le_of_ble_eq_true rfl⟩) hS (fun H locs hM hS => ?_)
      have hn : cs_zo pn pf pk zc zz q d k = some (i, z) := by rw [cs_zo, hg]; show (fst (cs_znP (zz i) q) (zc i)).map _ = _; rw [hf]; rfl
      exact mp_aret hx hb hr hlocks (Nat.le_of_ble_eq_true rfl) (Nat.le_of_ble_eq_true rfl) hM hS dX7_zoneInForce_32 (by first | exact Or.inl ⟨_, rfl⟩ | exact Or.inr ⟨_, rfl⟩) (by first | exact Or.inl rfl | exact Or.inr ⟨_, rfl⟩) (Or.inr ⟨i, z, za_i z, (7, i, z), hn, rfl, hZ_i z hz, rfl⟩)
abbrev rmX7_told : Room := { frames := 4, cells := 0, slots := 0, locals := 85 }
set_option maxHeartbeats 4000000 in
set_option maxRecDepth 100000 in
theorem c_X7_told (l : Launch) (X : mp_X) (G : mp_G) (A : Nat → Prop) (M : mp_M) (bq : Nat) (l0 : Nat) (l1 : Nat) (l2 : Nat) (l3 : Nat) (tp : Nat) (tz : Nat) (td : Int32) (fl : Int32) (tt : Nat → Int32) (pl : Nat) (ra : Nat → Nat) (Rg : Nat → rg_R) (pn : Nat) (pa : Nat → Nat) (pf : Nat → Int32) (pk : Nat → Int32) (zc : Nat → Nat) (zz : Nat → Nat → zr) (ap : Nat) (aa : Nat → Nat) (dq : Nat → Nat) (av : Nat → Nat → Int32) (dv : Nat → ds_D) (nh : Nat) (ah : Nat → Nat) (vh : Nat → Nat → Int32) (hB : BN G X M bq l0 l1 l2 l3 tp tz td fl tt pl ra Rg pn pa pf pk zc zz ap aa dq av dv nh ah vh) (q w : Int32) : mp_Met l X G A yX7_told wsX7_told rmX7_told ([.ref bq, .int q, .int w] : List Value) M (fun r M1 => r = some (.int (cs_told ap av dv td q w)) ∧ M1 = M) 0 0 := by
  refine mp_ofW (cc := cX7_told) (maxL := 4) (ret := (some .int)) (by decide) rfl (Nat.le_of_ble_eq_true rfl) ?_
  intro p e s m below meth c ls hx hb hr hts hown hlocks hnm hml hC hM hS hl
  have hl : lv_has ls 4 [(0, .ref bq), (1, .int q), (2, .int w)] := hl
  have hown : s.vm.findClass RX7 = some m.cls := hown
  have hin_wsX70 : ∀ w ∈ wsX70, w ∈ wsX7_told := fun _ h => List.mem_cons_of_mem _ (List.mem_append_left _ (List.mem_append_left _ (List.mem_append_left _ (List.mem_append_right _ h))))
  have fl_40 := hts (.fieldLink RX7 40 "PlanningBench" "today" "I") (List.mem_of_getElem? (i := 1) rfl)
  have hb9 := hB.b
  refine lv_aload_n hx hb dX7_told_0 rfl (lv_at hl 0 rfl) ?_
  refine lv_iload_n hx hb dX7_told_1 rfl (lv_at hl 1 rfl) ?_
  by_cases hq : isAt q ap
  · skip
    obtain ⟨i, hi, ei⟩ := id hq
    have ni : q.toNatClampNeg = i := by rw [ei]; exact nI_clamp (by omega)
    refine mp_top (nI i) ei ?_
    refine mp_callr (va_runV (As := [.int (nI i)]) (rest := []) ⟨hx, hb, hml, hown, hts⟩ (c_X7_applicationAt l X G A (M) bq l0 l1 l2 l3 tp tz td fl tt pl ra Rg pn pa pf pk zc zz ap aa dq av dv nh ah vh hB i hi) (cwV 1 hts gX7_told_X7_applicationAt rfl rfl rfl (by decide +kernel) ⟨Nat.le_of_ble_eq_true rfl, Nat.le_of_ble_eq_true rfl⟩) (mp_preV hC hS hM (mp_recv hC.1 hM hB.O (r := (RX7, TX7, 9)) rfl)) rfl rfl hl.1 rfl (lv_room (Nat.le_of_ble_eq_true rfl)) dX7_told_2 ⟨Nat.le_of_ble_eq_true rfl, Nat.le_of_ble_eq_true rfl⟩) hS (fun H locs hM hS => ?_)
    refine lv_astore_n (lv' := [(3, .ref (aa i)), (0, .ref bq), (1, .int q), (2, .int w)]) hx hb dX7_told_5 rfl hl (by decide) rfl (fun ls hl => ?_)
    refine lv_aload_n hx hb dX7_told_6 rfl (lv_at hl 0 rfl) ?_
    refine lv_ifnonnull (tgt := 14) hx hb dX7_told_7 (by decide) ?_
    refine lv_aload_n hx hb dX7_told_14 rfl (lv_at hl 0 rfl) ?_
    refine lv_iload_n hx hb dX7_told_15 rfl (lv_at hl 3 rfl) ?_
    refine lv_aload_n hx hb dX7_told_16 rfl (lv_at hl 1 rfl) ?_
    refine va_get (D := G.1) (C := RX7) (T := TX7) (N := 9) (ci := 8) hx hb hts hin_wsX70 hown hC.1 (hM.one hB.O) 0 rfl rfl 7 (by decide) fl_40 (fun _ z => z) rfl dX7_told_17 ?_
    refine mp_calli (va_runV (As := [.int w, .int td]) (rest := []) ⟨hx, hb, hml, hown, hts⟩ (c_X0_tell l X G A (M) (aa i) (dq i) (av i) ⟨_, (hB.A (i := i) (by omega))⟩ (dv i) ⟨_, hB.D (i := i) (by omega)⟩ w td) (cwV 2 hts gX7_told_X0_tell rfl rfl rfl (by decide +kernel) ⟨Nat.le_of_ble_eq_true rfl, Nat.le_of_ble_eq_true rfl⟩) (mp_preV hC hS hM (mp_recv hC.1 hM (hB.A (i := i) (by omega)) (r := (RX0, TX0, 12)) rfl)) rfl rfl hl.1 rfl (lv_room (Nat.le_of_ble_eq_true rfl)) dX7_told_20 ⟨Nat.le_of_ble_eq_true rfl, Nat.le_of_ble_eq_true rfl⟩) hS (fun H locs hM hS => ?_)
    exact mp_iret hx hb hr hlocks (Nat.le_of_ble_eq_true rfl) (Nat.le_of_ble_eq_true rfl) hM hS dX7_told_23 (⟨by rw [cs_told, pB_t hq, if_pos rfl, ni], rfl⟩)
  · skip
    refine mp_calln (va_runV (As := [.int q]) (rest := []) ⟨hx, hb, hml, hown, hts⟩ (c_X7_applicationAt_n l X G A (M) bq l0 l1 l2 l3 tp tz td fl tt pl ra Rg pn pa pf pk zc zz ap aa dq av dv nh ah vh hB q hq) (cwV 1 hts gX7_told_X7_applicationAt rfl rfl rfl (by decide +kernel) ⟨Nat.le_of_ble_eq_true rfl, Nat.le_of_ble_eq_true rfl⟩) (mp_preV hC hS hM (mp_recv hC.1 hM hB.O (r := (RX7, TX7, 9)) rfl)) rfl rfl hl.1 rfl (lv_room (Nat.le_of_ble_eq_true rfl)) dX7_told_2 ⟨Nat.le_of_ble_eq_true rfl, Nat.le_of_ble_eq_true rfl⟩) hS (fun H locs hM hS => ?_)
    refine lv_astore_nN (lv' := [(3, .null), (0, .ref bq), (1, .int q), (2, .int w)]) hx hb dX7_told_5 rfl hl (by decide) rfl (fun ls hl => ?_)
    refine lv_aload_nN hx hb dX7_told_6 rfl (lv_at hl 0 rfl) ?_
    refine lv_ifnonnullN hx hb dX7_told_7 ?_
    refine lv_iconst (v := (-1 : Int32)) hx hb dX7_told_10 (by decide) ?_
    refine lv_goto (tgt := 23) hx hb dX7_told_11 (by decide) ?_
    exact mp_iret hx hb hr hlocks (Nat.le_of_ble_eq_true rfl) (Nat.le_of_ble_eq_true rfl) hM hS dX7_told_23 (⟨by rw [cs_told, pB_f hq]; rfl, rfl⟩)
abbrev rmX7_stands : Room := { frames := 4, cells := 0, slots := 0, locals := 85 }
set_option maxHeartbeats 4000000 in
set_option maxRecDepth 100000 in
theorem c_X7_stands (l : Launch) (X : mp_X) (G : mp_G) (A : Nat → Prop) (M : mp_M) (bq : Nat) (l0 : Nat) (l1 : Nat) (l2 : Nat) (l3 : Nat) (tp : Nat) (tz : Nat) (td : Int32) (fl : Int32) (tt : Nat → Int32) (pl : Nat) (ra : Nat → Nat) (Rg : Nat → rg_R) (pn : Nat) (pa : Nat → Nat) (pf : Nat → Int32) (pk : Nat → Int32) (zc : Nat → Nat) (zz : Nat → Nat → zr) (ap : Nat) (aa : Nat → Nat) (dq : Nat → Nat) (av : Nat → Nat → Int32) (dv : Nat → ds_D) (nh : Nat) (ah : Nat → Nat) (vh : Nat → Nat → Int32) (hB : BN G X M bq l0 l1 l2 l3 tp tz td fl tt pl ra Rg pn pa pf pk zc zz ap aa dq av dv nh ah vh) (q d k : Int32) : mp_Met l X G A yX7_stands wsX7_stands rmX7_stands ([.ref bq, .int q, .int d, .int k] : List Value) M (fun r M1 => r = some (.int (bI (pB (cs_stands ap av q d k)))) ∧ M1 = M) 0 0 := by
  refine mp_ofW (cc := cX7_stands) (maxL := 5) (ret := (some .boolean)) (by decide) rfl (Nat.le_of_ble_eq_true rfl) ?_
  intro p e s m below meth c ls hx hb hr hts hown hlocks hnm hml hC hM hS hl
  have hl : lv_has ls 5 [(0, .ref bq), (1, .int q), (2, .int d), (3, .int k)] := hl
  have hown : s.vm.findClass RX7 = some m.cls := hown
  have hb9 := hB.b
  refine lv_aload_n hx hb dX7_stands_0 rfl (lv_at hl 0 rfl) ?_
  refine lv_iload_n hx hb dX7_stands_1 rfl (lv_at hl 1 rfl) ?_
  by_cases hq : isAt q ap
  · skip
    obtain ⟨i, hi, ei⟩ := id hq
    have ni : q.toNatClampNeg = i := by rw [ei]; exact nI_clamp (by omega)
    refine mp_top (nI i) ei ?_
    refine mp_callr (va_runV (As := [.int (nI i)]) (rest := []) ⟨hx, hb, hml, hown, hts⟩ (c_X7_applicationAt l X G A (M) bq l0 l1 l2 l3 tp tz td fl tt pl ra Rg pn pa pf pk zc zz ap aa dq av dv nh ah vh hB i hi) (cwV 1 hts gX7_stands_X7_applicationAt rfl rfl rfl (by decide +kernel) ⟨Nat.le_of_ble_eq_true rfl, Nat.le_of_ble_eq_true rfl⟩) (mp_preV hC hS hM (mp_recv hC.1 hM hB.O (r := (RX7, TX7, 9)) rfl)) rfl rfl hl.1 rfl (lv_room (Nat.le_of_ble_eq_true rfl)) dX7_stands_2 ⟨Nat.le_of_ble_eq_true rfl, Nat.le_of_ble_eq_true rfl⟩) hS (fun H locs hM hS => ?_)
    refine lv_astore (lv' := [(4, .ref (aa i)), (0, .ref bq), (1, .int q), (2, .int d), (3, .int k)]) hx hb dX7_stands_5 hl (by decide) rfl (fun ls hl => ?_)
    refine lv_aload hx hb dX7_stands_7 (lv_at hl 0 rfl) ?_
    refine lv_ifnull hx hb dX7_stands_9 ?_
    refine lv_iload_n hx hb dX7_stands_12 rfl (lv_at hl 3 rfl) ?_
    refine mp_calli (va_runS (As := [.int d]) (rest := []) ⟨hx, hb, hml, hown, hts⟩ (c_X7_isDay l X G A (M) d) (va_cwS 1 hts gX7_stands_X7_isDay rfl rfl rfl (by decide +kernel) ⟨Nat.le_of_ble_eq_true rfl, Nat.le_of_ble_eq_true rfl⟩) (mp_preS hC hS hM) rfl rfl hl.1 rfl (lv_room (Nat.le_of_ble_eq_true rfl)) dX7_stands_13 ⟨Nat.le_of_ble_eq_true rfl, Nat.le_of_ble_eq_true rfl⟩) hS (fun H locs hM hS => ?_)
    refine lv_if_eq (tgt := 26) hx hb dX7_stands_16 (by decide) (fun c1 => ?_) (fun c1 => ?_)
    · have c1 : (pB (md_in d 0 9999)) = false := bI_0.mp c1
      refine lv_iconst (v := (0 : Int32)) hx hb dX7_stands_26 (by decide) ?_
      exact mp_zret hx hb hr hlocks (Nat.le_of_ble_eq_true rfl) (Nat.le_of_ble_eq_true rfl) hM hS dX7_stands_27 (by first | rfl | exact bI_nar _) (⟨b0 (fun z => pB_not.mp c1 z.2.1), rfl⟩)
    · have c1 : (pB (md_in d 0 9999)) = true := bI_1.mp c1
      refine lv_iload_n hx hb dX7_stands_19 rfl (lv_at hl 4 rfl) ?_
      refine mp_calli (va_runS (As := [.int k]) (rest := []) ⟨hx, hb, hml, hown, hts⟩ (c_X7_isDay l X G A (M) k) (va_cwS 1 hts gX7_stands_X7_isDay rfl rfl rfl (by decide +kernel) ⟨Nat.le_of_ble_eq_true rfl, Nat.le_of_ble_eq_true rfl⟩) (mp_preS hC hS hM) rfl rfl hl.1 rfl (lv_room (Nat.le_of_ble_eq_true rfl)) dX7_stands_20 ⟨Nat.le_of_ble_eq_true rfl, Nat.le_of_ble_eq_true rfl⟩) hS (fun H locs hM hS => ?_)
      refine lv_if_ne (tgt := 28) hx hb dX7_stands_23 (by decide) (fun c3 => ?_) (fun c3 => ?_)
      · have c3 : (pB (md_in k 0 9999)) = true := bI_1.mp c3
        refine lv_aload hx hb dX7_stands_28 (lv_at hl 0 rfl) ?_
        refine lv_iload_n hx hb dX7_stands_30 rfl (lv_at hl 3 rfl) ?_
        refine lv_iload_n hx hb dX7_stands_31 rfl (lv_at hl 4 rfl) ?_
        refine mp_calli (va_runV (As := [.int d, .int k]) (rest := []) ⟨hx, hb, hml, hown, hts⟩ (c_X0_stoodOn l X G A (M) (aa i) (dq i) (av i) ⟨_, (hB.A (i := i) (by omega))⟩ d k) (cwV 2 hts gX7_stands_X0_stoodOn rfl rfl rfl (by decide +kernel) ⟨Nat.le_of_ble_eq_true rfl, Nat.le_of_ble_eq_true rfl⟩) (mp_preV hC hS hM (mp_recv hC.1 hM (hB.A (i := i) (by omega)) (r := (RX0, TX0, 12)) rfl)) rfl rfl hl.1 rfl (lv_room (Nat.le_of_ble_eq_true rfl)) dX7_stands_32 ⟨Nat.le_of_ble_eq_true rfl, Nat.le_of_ble_eq_true rfl⟩) hS (fun H locs hM hS => ?_)
        exact mp_zret hx hb hr hlocks (Nat.le_of_ble_eq_true rfl) (Nat.le_of_ble_eq_true rfl) hM hS dX7_stands_35 (bI_nar _) (⟨by rw [pB_congr (show aS (av i) d k ↔ cs_stands ap av q d k from ⟨fun z => ⟨hq, pB_iff.mp c1, pB_iff.mp c3, by rw [ni]; exact z⟩, fun z => by have y := z.2.2.2; rw [ni] at y; exact y⟩)], rfl⟩)
      · have c3 : (pB (md_in k 0 9999)) = false := bI_0.mp c3
        refine lv_iconst (v := (0 : Int32)) hx hb dX7_stands_26 (by decide) ?_
        exact mp_zret hx hb hr hlocks (Nat.le_of_ble_eq_true rfl) (Nat.le_of_ble_eq_true rfl) hM hS dX7_stands_27 (by first | rfl | exact bI_nar _) (⟨b0 (fun z => pB_not.mp c3 z.2.2.1), rfl⟩)
  · skip
    refine mp_calln (va_runV (As := [.int q]) (rest := []) ⟨hx, hb, hml, hown, hts⟩ (c_X7_applicationAt_n l X G A (M) bq l0 l1 l2 l3 tp tz td fl tt pl ra Rg pn pa pf pk zc zz ap aa dq av dv nh ah vh hB q hq) (cwV 1 hts gX7_stands_X7_applicationAt rfl rfl rfl (by decide +kernel) ⟨Nat.le_of_ble_eq_true rfl, Nat.le_of_ble_eq_true rfl⟩) (mp_preV hC hS hM (mp_recv hC.1 hM hB.O (r := (RX7, TX7, 9)) rfl)) rfl rfl hl.1 rfl (lv_room (Nat.le_of_ble_eq_true rfl)) dX7_stands_2 ⟨Nat.le_of_ble_eq_true rfl, Nat.le_of_ble_eq_true rfl⟩) hS (fun H locs hM hS => ?_)
    refine lv_astoreN (lv' := [(4, .null), (0, .ref bq), (1, .int q), (2, .int d), (3, .int k)]) hx hb dX7_stands_5 hl (by decide) rfl (fun ls hl => ?_)
    refine lv_aloadN hx hb dX7_stands_7 (lv_at hl 0 rfl) ?_
    refine lv_ifnullN (tgt := 26) hx hb dX7_stands_9 (by decide) ?_
    refine lv_iconst (v := (0 : Int32)) hx hb dX7_stands_26 (by decide) ?_
    exact mp_zret hx hb hr hlocks (Nat.le_of_ble_eq_true rfl) (Nat.le_of_ble_eq_true rfl) hM hS dX7_stands_27 (by first | rfl | exact bI_nar _) (⟨b0 (fun z => hq z.1), rfl⟩)
abbrev rmX7_standingToday : Room := { frames := 3, cells := 0, slots := 0, locals := 64 }
set_option maxHeartbeats 4000000 in
set_option maxRecDepth 100000 in
theorem c_X7_standingToday (l : Launch) (X : mp_X) (G : mp_G) (A : Nat → Prop) (M : mp_M) (bq : Nat) (l0 : Nat) (l1 : Nat) (l2 : Nat) (l3 : Nat) (tp : Nat) (tz : Nat) (td : Int32) (fl : Int32) (tt : Nat → Int32) (pl : Nat) (ra : Nat → Nat) (Rg : Nat → rg_R) (pn : Nat) (pa : Nat → Nat) (pf : Nat → Int32) (pk : Nat → Int32) (zc : Nat → Nat) (zz : Nat → Nat → zr) (ap : Nat) (aa : Nat → Nat) (dq : Nat → Nat) (av : Nat → Nat → Int32) (dv : Nat → ds_D) (nh : Nat) (ah : Nat → Nat) (vh : Nat → Nat → Int32) (hB : BN G X M bq l0 l1 l2 l3 tp tz td fl tt pl ra Rg pn pa pf pk zc zz ap aa dq av dv nh ah vh) : mp_Met l X G A yX7_standingToday wsX7_standingToday rmX7_standingToday ([.ref bq] : List Value) M (fun r M1 => r = some (.int (cntI (fun i => aS (av i) td td) ap)) ∧ M1 = M) 0 0 := by
  refine mp_ofW (cc := cX7_standingToday) (maxL := 3) (ret := (some .int)) (by decide) rfl (Nat.le_of_ble_eq_true rfl) ?_
  intro p e s m below meth c ls hx hb hr hts hown hlocks hnm hml hC hM hS hl
  have hl : lv_has ls 3 [(0, .ref bq)] := hl
  have hown : s.vm.findClass RX7 = some m.cls := hown
  have hin_wsX70 : ∀ w ∈ wsX70, w ∈ wsX7_standingToday := fun _ h => List.mem_cons_of_mem _ (List.mem_append_left _ (List.mem_append_left _ (List.mem_append_right _ h)))
  have fl_19 := hts (.fieldLink RX7 19 "PlanningBench" "applications" "Ljava/util/ArrayList;") (List.mem_of_getElem? (i := 1) rfl)
  have cl_209 := hts (.classLink RX7 209 "PlanningBench$Application") (List.mem_of_getElem? (i := 2) rfl)
  have fl_40 := hts (.fieldLink RX7 40 "PlanningBench" "today" "I") (List.mem_of_getElem? (i := 3) rfl)
  have hb9 := hB.b
  refine lv_iconst (v := (0 : Int32)) hx hb dX7_standingToday_0 (by decide) ?_
  refine lv_istore_n (lv' := [(1, .int (0 : Int32)), (0, .ref bq)]) hx hb dX7_standingToday_1 rfl hl (by decide) rfl (fun ls hl => ?_)
  refine lv_iconst (v := (0 : Int32)) hx hb dX7_standingToday_2 (by decide) ?_
  refine lv_istore_n (lv' := [(2, .int (0 : Int32)), (1, .int (0 : Int32)), (0, .ref bq)]) hx hb dX7_standingToday_3 rfl hl (by decide) rfl (fun ls hl => ?_)
  have LP4 : ∀ (kk : Nat) (i : Nat) (ls : Array Slot) (H : Heap) (locs : List Loc), ap - i < kk → i ≤ ap → mp_P G.1 A M H → va_S A s.heap H locs → lv_has ls 3 [(0, .ref bq), (1, .int (cntI (fun i => aS (av i) td td) i)), (2, .int (nI i))] → W p l e rmX7_standingToday s m ([.ref bq] : List Value).toArray below meth c H locs 0 0 (MQ below (mp_Q G.1 A (fun r M1 => r = some (.int (cntI (fun i => aS (av i) td td) ap)) ∧ M1 = M)) ([.ref bq] : List Value).toArray s 0 0 A) (F0 m 4 ls []) := by
    intro kk
    induction kk with
    | zero => intro i ls H locs hk; exact absurd hk (Nat.not_lt_zero _)
    | succ kk ih =>
      intro i ls H locs hk hi hM hS hl
      refine lv_iload_n hx hb dX7_standingToday_4 rfl (lv_at hl 2 rfl) ?_
      refine lv_aload_n hx hb dX7_standingToday_5 rfl (lv_at hl 0 rfl) ?_
      refine va_get (D := G.1) (C := RX7) (T := TX7) (N := 9) (ci := 8) hx hb hts hin_wsX70 hown hC.1 (hM.one hB.O) 0 rfl rfl 2 (by decide) fl_19 (fun _ z => z) rfl dX7_standingToday_6 ?_
      refine mp_calli (va_runV (As := []) (rest := [.int (nI i)]) ⟨hx, hb, hml, hown, hts⟩ (c_size l X G A (M) hB.L2) (cwV 0 hts gX7_standingToday_Jx4a65c_size_8abf5 rfl rfl rfl (by decide +kernel) ⟨Nat.le_of_ble_eq_true rfl, Nat.le_of_ble_eq_true rfl⟩) (mp_preV hC hS hM (mp_recvL hC.1 hM hB.L2)) rfl rfl hl.1 rfl (lv_room (Nat.le_of_ble_eq_true rfl)) dX7_standingToday_9 ⟨Nat.le_of_ble_eq_true rfl, Nat.le_of_ble_eq_true rfl⟩) hS (fun H locs hM hS => ?_)
      refine lv_icmp_ge (tgt := 49) hx hb dX7_standingToday_12 (by decide) (fun c1 => ?_) (fun c1 => ?_)
      · have c1 := nn_le (a := ap) (b := i) (by omega) (by omega) c1
        refine lv_iload_n hx hb dX7_standingToday_49 rfl (lv_at hl 1 rfl) ?_
        exact mp_iret hx hb hr hlocks (Nat.le_of_ble_eq_true rfl) (Nat.le_of_ble_eq_true rfl) hM hS dX7_standingToday_50 (⟨by rw [show i = ap by omega], rfl⟩)
      · have c1 := nn_nle (a := ap) (b := i) (by omega) (by omega) c1
        refine lv_aload_n hx hb dX7_standingToday_15 rfl (lv_at hl 0 rfl) ?_
        refine va_get (D := G.1) (C := RX7) (T := TX7) (N := 9) (ci := 8) hx hb hts hin_wsX70 hown hC.1 (hM.one hB.O) 0 rfl rfl 2 (by decide) fl_19 (fun _ z => z) rfl dX7_standingToday_16 ?_
        refine lv_iload_n hx hb dX7_standingToday_19 rfl (lv_at hl 2 rfl) ?_
        refine mp_callr (va_runV (As := [.int (nI i)]) (rest := []) ⟨hx, hb, hml, hown, hts⟩ (c_get l X G A (M) hB.L2 i (by omega)) (cwV 1 hts gX7_standingToday_Jx4a65c_get_915e3 rfl rfl rfl (by decide +kernel) ⟨Nat.le_of_ble_eq_true rfl, Nat.le_of_ble_eq_true rfl⟩) (mp_preV hC hS hM (mp_recvL hC.1 hM hB.L2)) rfl rfl hl.1 rfl (lv_room (Nat.le_of_ble_eq_true rfl)) dX7_standingToday_20 ⟨Nat.le_of_ble_eq_true rfl, Nat.le_of_ble_eq_true rfl⟩) hS (fun H locs hM hS => ?_)
        refine va_castS hx hb hown cl_209 (hC.1.1 1 (RX0, TX0, 12) rfl).2 (mp_recv hC.1 hM (hB.A (i := i) (by omega)) (r := (RX0, TX0, 12)) rfl) dX7_standingToday_23 ?_
        refine lv_aload_n hx hb dX7_standingToday_26 rfl (lv_at hl 0 rfl) ?_
        refine va_get (D := G.1) (C := RX7) (T := TX7) (N := 9) (ci := 8) hx hb hts hin_wsX70 hown hC.1 (hM.one hB.O) 0 rfl rfl 7 (by decide) fl_40 (fun _ z => z) rfl dX7_standingToday_27 ?_
        refine lv_aload_n hx hb dX7_standingToday_30 rfl (lv_at hl 0 rfl) ?_
        refine va_get (D := G.1) (C := RX7) (T := TX7) (N := 9) (ci := 8) hx hb hts hin_wsX70 hown hC.1 (hM.one hB.O) 0 rfl rfl 7 (by decide) fl_40 (fun _ z => z) rfl dX7_standingToday_31 ?_
        refine mp_calli (va_runV (As := [.int td, .int td]) (rest := []) ⟨hx, hb, hml, hown, hts⟩ (c_X0_stoodOn l X G A (M) (aa i) (dq i) (av i) ⟨_, (hB.A (i := i) (by omega))⟩ td td) (cwV 2 hts gX7_standingToday_X0_stoodOn rfl rfl rfl (by decide +kernel) ⟨Nat.le_of_ble_eq_true rfl, Nat.le_of_ble_eq_true rfl⟩) (mp_preV hC hS hM (mp_recv hC.1 hM (hB.A (i := i) (by omega)) (r := (RX0, TX0, 12)) rfl)) rfl rfl hl.1 rfl (lv_room (Nat.le_of_ble_eq_true rfl)) dX7_standingToday_34 ⟨Nat.le_of_ble_eq_true rfl, Nat.le_of_ble_eq_true rfl⟩) hS (fun H locs hM hS => ?_)
        refine lv_if_eq (tgt := 43) hx hb dX7_standingToday_37 (by decide) (fun c3 => ?_) (fun c3 => ?_)
        · have c3 : (pB (aS (av i) td td)) = false := bI_0.mp c3
          refine lv_iinc (v := nI (i + 1)) (lv' := [(2, .int (nI (i + 1))), (0, .ref bq), (1, .int (cntI (fun i => aS (av i) td td) i))]) hx hb dX7_standingToday_43 hl (k := 2) rfl (nI_1 i) (by decide) rfl (fun ls hl => ?_)
          refine lv_goto (tgt := 4) hx hb dX7_standingToday_46 (by decide) ?_
          exact ih (i + 1) ls _ _ (by omega) (by omega) hM hS (by rw [cntI_n (pB_not.mp c3)]; exact (lv_sub hl [1, 2, 0] rfl))
        · have c3 : (pB (aS (av i) td td)) = true := bI_1.mp c3
          refine lv_iinc (v := (cntI (fun i => aS (av i) td td) i) + (1 : Int32)) (lv' := [(1, .int ((cntI (fun i => aS (av i) td td) i) + (1 : Int32))), (0, .ref bq), (2, .int (nI i))]) hx hb dX7_standingToday_40 hl (k := 1) rfl (rfl) (by decide) rfl (fun ls hl => ?_)
          refine lv_iinc (v := nI (i + 1)) (lv' := [(2, .int (nI (i + 1))), (1, .int ((cntI (fun i => aS (av i) td td) i) + (1 : Int32))), (0, .ref bq)]) hx hb dX7_standingToday_43 hl (k := 2) rfl (nI_1 i) (by decide) rfl (fun ls hl => ?_)
          refine lv_goto (tgt := 4) hx hb dX7_standingToday_46 (by decide) ?_
          exact ih (i + 1) ls _ _ (by omega) (by omega) hM hS (by rw [cntI_y (pB_iff.mp c3)]; exact (lv_sub hl [2, 1, 0] rfl))
  exact LP4 _ 0 ls _ _ (Nat.lt_succ_self _) (Nat.zero_le _) hM hS (lv_sub hl [2, 1, 0] rfl)
abbrev rmX7_clash : Room := { frames := 4, cells := 0, slots := 0, locals := 85 }
set_option maxHeartbeats 4000000 in
set_option maxRecDepth 100000 in
theorem c_X7_clash (l : Launch) (X : mp_X) (G : mp_G) (A : Nat → Prop) (M : mp_M) (bq : Nat) (l0 : Nat) (l1 : Nat) (l2 : Nat) (l3 : Nat) (tp : Nat) (tz : Nat) (td : Int32) (fl : Int32) (tt : Nat → Int32) (pl : Nat) (ra : Nat → Nat) (Rg : Nat → rg_R) (pn : Nat) (pa : Nat → Nat) (pf : Nat → Int32) (pk : Nat → Int32) (zc : Nat → Nat) (zz : Nat → Nat → zr) (ap : Nat) (aa : Nat → Nat) (dq : Nat → Nat) (av : Nat → Nat → Int32) (dv : Nat → ds_D) (nh : Nat) (ah : Nat → Nat) (vh : Nat → Nat → Int32) (hB : BN G X M bq l0 l1 l2 l3 tp tz td fl tt pl ra Rg pn pa pf pk zc zz ap aa dq av dv nh ah vh) (q : Int32) : mp_Met l X G A yX7_clash wsX7_clash rmX7_clash ([.ref bq, .int q] : List Value) M (fun r M1 => r = some (.int (cs_clash ap av dv td q)) ∧ M1 = M) 0 0 := by
  refine mp_ofW (cc := cX7_clash) (maxL := 6) (ret := (some .int)) (by decide) rfl (Nat.le_of_ble_eq_true rfl) ?_
  intro p e s m below meth c ls hx hb hr hts hown hlocks hnm hml hC hM hS hl
  have hl : lv_has ls 6 [(0, .ref bq), (1, .int q)] := hl
  have hown : s.vm.findClass RX7 = some m.cls := hown
  have hin_wsX70 : ∀ w ∈ wsX70, w ∈ wsX7_clash := fun _ h => List.mem_cons_of_mem _ (List.mem_append_left _ (List.mem_append_left _ (List.mem_append_left _ (List.mem_append_right _ h))))
  have fl_19 := hts (.fieldLink RX7 19 "PlanningBench" "applications" "Ljava/util/ArrayList;") (List.mem_of_getElem? (i := 1) rfl)
  have cl_209 := hts (.classLink RX7 209 "PlanningBench$Application") (List.mem_of_getElem? (i := 2) rfl)
  have fl_40 := hts (.fieldLink RX7 40 "PlanningBench" "today" "I") (List.mem_of_getElem? (i := 3) rfl)
  have hin_wsX00 : ∀ w ∈ wsX00, w ∈ wsX7_clash := fun _ h => List.mem_cons_of_mem _ (List.mem_append_left _ (List.mem_append_left _ (List.mem_append_right _ h)))
  have nf_211 := hC.2.1 (.fieldLinkNest RX7 211 "PlanningBench$Application" "design" "LPlanningBench$Design;" "PlanningBench") (List.mem_of_getElem? (i := 19) rfl)
  have hb9 := hB.b
  refine lv_aload_n hx hb dX7_clash_0 rfl (lv_at hl 0 rfl) ?_
  refine lv_iload_n hx hb dX7_clash_1 rfl (lv_at hl 1 rfl) ?_
  by_cases hq : isAt q ap
  · skip
    obtain ⟨jb, hjb, ejb⟩ := id hq
    have njb : q.toNatClampNeg = jb := by rw [ejb]; exact nI_clamp (by omega)
    refine mp_top (nI jb) ejb ?_
    refine mp_callr (va_runV (As := [.int (nI jb)]) (rest := []) ⟨hx, hb, hml, hown, hts⟩ (c_X7_applicationAt l X G A (M) bq l0 l1 l2 l3 tp tz td fl tt pl ra Rg pn pa pf pk zc zz ap aa dq av dv nh ah vh hB jb hjb) (cwV 1 hts gX7_clash_X7_applicationAt rfl rfl rfl (by decide +kernel) ⟨Nat.le_of_ble_eq_true rfl, Nat.le_of_ble_eq_true rfl⟩) (mp_preV hC hS hM (mp_recv hC.1 hM hB.O (r := (RX7, TX7, 9)) rfl)) rfl rfl hl.1 rfl (lv_room (Nat.le_of_ble_eq_true rfl)) dX7_clash_2 ⟨Nat.le_of_ble_eq_true rfl, Nat.le_of_ble_eq_true rfl⟩) hS (fun H locs hM hS => ?_)
    refine lv_astore_n (lv' := [(2, .ref (aa jb)), (0, .ref bq), (1, .int q)]) hx hb dX7_clash_5 rfl hl (by decide) rfl (fun ls hl => ?_)
    refine lv_aload_n hx hb dX7_clash_6 rfl (lv_at hl 0 rfl) ?_
    refine lv_ifnonnull (tgt := 12) hx hb dX7_clash_7 (by decide) ?_
    refine lv_iconst (v := (0 : Int32)) hx hb dX7_clash_12 (by decide) ?_
    refine lv_istore_n (lv' := [(3, .int (0 : Int32)), (2, .ref (aa jb)), (0, .ref bq), (1, .int q)]) hx hb dX7_clash_13 rfl hl (by decide) rfl (fun ls hl => ?_)
    refine lv_iconst (v := (0 : Int32)) hx hb dX7_clash_14 (by decide) ?_
    refine lv_istore (lv' := [(4, .int (0 : Int32)), (3, .int (0 : Int32)), (2, .ref (aa jb)), (0, .ref bq), (1, .int q)]) hx hb dX7_clash_15 hl (by decide) rfl (fun ls hl => ?_)
    have LP17 : ∀ (kk : Nat) (i : Nat) (ls : Array Slot) (H : Heap) (locs : List Loc), ap - i < kk → i ≤ ap → mp_P G.1 A M H → va_S A s.heap H locs → lv_has ls 6 [(0, .ref bq), (1, .int q), (2, .ref (aa jb)), (3, .int (cntI (cs_clP av dv td jb) i)), (4, .int (nI i))] → W p l e rmX7_clash s m ([.ref bq, .int q] : List Value).toArray below meth c H locs 0 0 (MQ below (mp_Q G.1 A (fun r M1 => r = some (.int (cs_clash ap av dv td q)) ∧ M1 = M)) ([.ref bq, .int q] : List Value).toArray s 0 0 A) (F0 m 17 ls []) := by
      intro kk
      induction kk with
      | zero => intro i ls H locs hk; exact absurd hk (Nat.not_lt_zero _)
      | succ kk ih =>
        intro i ls H locs hk hi hM hS hl
        refine lv_iload hx hb dX7_clash_17 (lv_at hl 4 rfl) ?_
        refine lv_aload_n hx hb dX7_clash_19 rfl (lv_at hl 0 rfl) ?_
        refine va_get (D := G.1) (C := RX7) (T := TX7) (N := 9) (ci := 8) hx hb hts hin_wsX70 hown hC.1 (hM.one hB.O) 0 rfl rfl 2 (by decide) fl_19 (fun _ z => z) rfl dX7_clash_20 ?_
        refine mp_calli (va_runV (As := []) (rest := [.int (nI i)]) ⟨hx, hb, hml, hown, hts⟩ (c_size l X G A (M) hB.L2) (cwV 0 hts gX7_clash_Jx4a65c_size_8abf5 rfl rfl rfl (by decide +kernel) ⟨Nat.le_of_ble_eq_true rfl, Nat.le_of_ble_eq_true rfl⟩) (mp_preV hC hS hM (mp_recvL hC.1 hM hB.L2)) rfl rfl hl.1 rfl (lv_room (Nat.le_of_ble_eq_true rfl)) dX7_clash_23 ⟨Nat.le_of_ble_eq_true rfl, Nat.le_of_ble_eq_true rfl⟩) hS (fun H locs hM hS => ?_)
        refine lv_icmp_ge (tgt := 89) hx hb dX7_clash_26 (by decide) (fun c1 => ?_) (fun c1 => ?_)
        · have c1 := nn_le (a := ap) (b := i) (by omega) (by omega) c1
          refine lv_iload_n hx hb dX7_clash_89 rfl (lv_at hl 3 rfl) ?_
          exact mp_iret hx hb hr hlocks (Nat.le_of_ble_eq_true rfl) (Nat.le_of_ble_eq_true rfl) hM hS dX7_clash_90 (⟨by rw [cs_clash, pB_t hq, if_pos rfl, njb, show i = ap by omega], rfl⟩)
        · have c1 := nn_nle (a := ap) (b := i) (by omega) (by omega) c1
          refine lv_aload_n hx hb dX7_clash_29 rfl (lv_at hl 0 rfl) ?_
          refine va_get (D := G.1) (C := RX7) (T := TX7) (N := 9) (ci := 8) hx hb hts hin_wsX70 hown hC.1 (hM.one hB.O) 0 rfl rfl 2 (by decide) fl_19 (fun _ z => z) rfl dX7_clash_30 ?_
          refine lv_iload hx hb dX7_clash_33 (lv_at hl 4 rfl) ?_
          refine mp_callr (va_runV (As := [.int (nI i)]) (rest := []) ⟨hx, hb, hml, hown, hts⟩ (c_get l X G A (M) hB.L2 i (by omega)) (cwV 1 hts gX7_clash_Jx4a65c_get_915e3 rfl rfl rfl (by decide +kernel) ⟨Nat.le_of_ble_eq_true rfl, Nat.le_of_ble_eq_true rfl⟩) (mp_preV hC hS hM (mp_recvL hC.1 hM hB.L2)) rfl rfl hl.1 rfl (lv_room (Nat.le_of_ble_eq_true rfl)) dX7_clash_35 ⟨Nat.le_of_ble_eq_true rfl, Nat.le_of_ble_eq_true rfl⟩) hS (fun H locs hM hS => ?_)
          refine va_castS hx hb hown cl_209 (hC.1.1 1 (RX0, TX0, 12) rfl).2 (mp_recv hC.1 hM (hB.A (i := i) (by omega)) (r := (RX0, TX0, 12)) rfl) dX7_clash_38 ?_
          refine lv_astore (lv' := [(5, .ref (aa i)), (0, .ref bq), (1, .int q), (2, .ref (aa jb)), (3, .int (cntI (cs_clP av dv td jb) i)), (4, .int (nI i))]) hx hb dX7_clash_41 hl (by decide) rfl (fun ls hl => ?_)
          refine lv_iload hx hb dX7_clash_43 (lv_at hl 5 rfl) ?_
          refine lv_iload_n hx hb dX7_clash_45 rfl (lv_at hl 2 rfl) ?_
          refine lv_icmp_eq (tgt := 83) hx hb dX7_clash_46 (by decide) (fun c3 => ?_) (fun c3 => ?_)
          · have c3 := c3
            refine lv_iinc (v := nI (i + 1)) (lv' := [(4, .int (nI (i + 1))), (5, .ref (aa i)), (0, .ref bq), (1, .int q), (2, .ref (aa jb)), (3, .int (cntI (cs_clP av dv td jb) i))]) hx hb dX7_clash_83 hl (k := 5) rfl (nI_1 i) (by decide) rfl (fun ls hl => ?_)
            refine lv_goto (tgt := 17) hx hb dX7_clash_86 (by decide) ?_
            exact ih (i + 1) ls _ _ (by omega) (by omega) hM hS (by rw [cntI_n (show ¬ cs_clP av dv td jb i from fun z => z.1 (nn_eq (by omega) (by omega) (c3.trans ejb)))]; exact (lv_sub hl [2, 3, 4, 5, 0] rfl))
          · have c3 := c3
            refine lv_aload hx hb dX7_clash_49 (lv_at hl 0 rfl) ?_
            refine lv_aload_n hx hb dX7_clash_51 rfl (lv_at hl 1 rfl) ?_
            refine va_get (D := G.1) (C := RX7) (T := TX7) (N := 9) (ci := 8) hx hb hts hin_wsX70 hown hC.1 (hM.one hB.O) 0 rfl rfl 7 (by decide) fl_40 (fun _ z => z) rfl dX7_clash_52 ?_
            refine lv_aload_n hx hb dX7_clash_55 rfl (lv_at hl 1 rfl) ?_
            refine va_get (D := G.1) (C := RX7) (T := TX7) (N := 9) (ci := 8) hx hb hts hin_wsX70 hown hC.1 (hM.one hB.O) 0 rfl rfl 7 (by decide) fl_40 (fun _ z => z) rfl dX7_clash_56 ?_
            refine mp_calli (va_runV (As := [.int td, .int td]) (rest := []) ⟨hx, hb, hml, hown, hts⟩ (c_X0_stoodOn l X G A (M) (aa i) (dq i) (av i) ⟨_, (hB.A (i := i) (by omega))⟩ td td) (cwV 2 hts gX7_clash_X0_stoodOn rfl rfl rfl (by decide +kernel) ⟨Nat.le_of_ble_eq_true rfl, Nat.le_of_ble_eq_true rfl⟩) (mp_preV hC hS hM (mp_recv hC.1 hM (hB.A (i := i) (by omega)) (r := (RX0, TX0, 12)) rfl)) rfl rfl hl.1 rfl (lv_room (Nat.le_of_ble_eq_true rfl)) dX7_clash_59 ⟨Nat.le_of_ble_eq_true rfl, Nat.le_of_ble_eq_true rfl⟩) hS (fun H locs hM hS => ?_)
            refine lv_if_eq (tgt := 83) hx hb dX7_clash_62 (by decide) (fun c4 => ?_) (fun c4 => ?_)
            · have c4 : (pB (aS (av i) td td)) = false := bI_0.mp c4
              refine lv_iinc (v := nI (i + 1)) (lv' := [(4, .int (nI (i + 1))), (5, .ref (aa i)), (0, .ref bq), (1, .int q), (2, .ref (aa jb)), (3, .int (cntI (cs_clP av dv td jb) i))]) hx hb dX7_clash_83 hl (k := 5) rfl (nI_1 i) (by decide) rfl (fun ls hl => ?_)
              refine lv_goto (tgt := 17) hx hb dX7_clash_86 (by decide) ?_
              exact ih (i + 1) ls _ _ (by omega) (by omega) hM hS (by rw [cntI_n (show ¬ cs_clP av dv td jb i from fun z => pB_not.mp c4 z.2.1)]; exact (lv_sub hl [2, 3, 4, 5, 0] rfl))
            · have c4 : (pB (aS (av i) td td)) = true := bI_1.mp c4
              refine lv_aload_n hx hb dX7_clash_65 rfl (lv_at hl 3 rfl) ?_
              refine va_getN (D := G.1) (C := RX0) (T := TX0) (N := 12) (ci := 1) hx hb hts hin_wsX00 hown hC.1 (hM.one (hB.A (i := jb) (by omega))) 0 rfl rfl 0 (by decide) (va_Nw.use rfl nf_211) (fun _ z => z) rfl dX7_clash_66 ?_
              refine lv_aload hx hb dX7_clash_69 (lv_at hl 0 rfl) ?_
              refine va_getN (D := G.1) (C := RX0) (T := TX0) (N := 12) (ci := 1) hx hb hts hin_wsX00 hown hC.1 (hM.one (hB.A (i := i) (by omega))) 0 rfl rfl 0 (by decide) (va_Nw.use rfl nf_211) (fun _ z => z) rfl dX7_clash_71 ?_
              refine mp_calli (va_runV (As := [.ref (dq i)]) (rest := []) ⟨hx, hb, hml, hown, hts⟩ (c_X1_meets l X G A (M) (dq jb) (dv jb) ⟨_, hB.D (i := jb) (by omega)⟩ (dq i) (dv i) ⟨_, hB.D (i := i) (by omega)⟩) (cwV 1 hts gX7_clash_X1_meets rfl rfl rfl (by decide +kernel) ⟨Nat.le_of_ble_eq_true rfl, Nat.le_of_ble_eq_true rfl⟩) (mp_preV hC hS hM (mp_recv hC.1 hM (hB.D (i := jb) (by omega)) (r := (RX1, TX1, 7)) rfl)) rfl rfl hl.1 rfl (lv_room (Nat.le_of_ble_eq_true rfl)) dX7_clash_74 ⟨Nat.le_of_ble_eq_true rfl, Nat.le_of_ble_eq_true rfl⟩) hS (fun H locs hM hS => ?_)
              refine lv_if_eq (tgt := 83) hx hb dX7_clash_77 (by decide) (fun c5 => ?_) (fun c5 => ?_)
              · have c5 : (pB (ds_meet (dv jb) (dv i))) = false := bI_0.mp c5
                refine lv_iinc (v := nI (i + 1)) (lv' := [(4, .int (nI (i + 1))), (5, .ref (aa i)), (0, .ref bq), (1, .int q), (2, .ref (aa jb)), (3, .int (cntI (cs_clP av dv td jb) i))]) hx hb dX7_clash_83 hl (k := 5) rfl (nI_1 i) (by decide) rfl (fun ls hl => ?_)
                refine lv_goto (tgt := 17) hx hb dX7_clash_86 (by decide) ?_
                exact ih (i + 1) ls _ _ (by omega) (by omega) hM hS (by rw [cntI_n (show ¬ cs_clP av dv td jb i from fun z => pB_not.mp c5 z.2.2)]; exact (lv_sub hl [2, 3, 4, 5, 0] rfl))
              · have c5 : (pB (ds_meet (dv jb) (dv i))) = true := bI_1.mp c5
                refine lv_iinc (v := (cntI (cs_clP av dv td jb) i) + (1 : Int32)) (lv' := [(3, .int ((cntI (cs_clP av dv td jb) i) + (1 : Int32))), (5, .ref (aa i)), (0, .ref bq), (1, .int q), (2, .ref (aa jb)), (4, .int (nI i))]) hx hb dX7_clash_80 hl (k := 4) rfl (rfl) (by decide) rfl (fun ls hl => ?_)
                refine lv_iinc (v := nI (i + 1)) (lv' := [(4, .int (nI (i + 1))), (3, .int ((cntI (cs_clP av dv td jb) i) + (1 : Int32))), (5, .ref (aa i)), (0, .ref bq), (1, .int q), (2, .ref (aa jb))]) hx hb dX7_clash_83 hl (k := 5) rfl (nI_1 i) (by decide) rfl (fun ls hl => ?_)
                refine lv_goto (tgt := 17) hx hb dX7_clash_86 (by decide) ?_
                exact ih (i + 1) ls _ _ (by omega) (by omega) hM hS (by rw [cntI_y (show cs_clP av dv td jb i from ⟨fun z => c3 (by rw [ejb, z]), pB_iff.mp c4, pB_iff.mp c5⟩)]; exact (lv_sub hl [3, 4, 5, 1, 0] rfl))
    exact LP17 _ 0 ls _ _ (Nat.lt_succ_self _) (Nat.zero_le _) hM hS (lv_sub hl [3, 4, 2, 1, 0] rfl)
  · skip
    refine mp_calln (va_runV (As := [.int q]) (rest := []) ⟨hx, hb, hml, hown, hts⟩ (c_X7_applicationAt_n l X G A (M) bq l0 l1 l2 l3 tp tz td fl tt pl ra Rg pn pa pf pk zc zz ap aa dq av dv nh ah vh hB q hq) (cwV 1 hts gX7_clash_X7_applicationAt rfl rfl rfl (by decide +kernel) ⟨Nat.le_of_ble_eq_true rfl, Nat.le_of_ble_eq_true rfl⟩) (mp_preV hC hS hM (mp_recv hC.1 hM hB.O (r := (RX7, TX7, 9)) rfl)) rfl rfl hl.1 rfl (lv_room (Nat.le_of_ble_eq_true rfl)) dX7_clash_2 ⟨Nat.le_of_ble_eq_true rfl, Nat.le_of_ble_eq_true rfl⟩) hS (fun H locs hM hS => ?_)
    refine lv_astore_nN (lv' := [(2, .null), (0, .ref bq), (1, .int q)]) hx hb dX7_clash_5 rfl hl (by decide) rfl (fun ls hl => ?_)
    refine lv_aload_nN hx hb dX7_clash_6 rfl (lv_at hl 0 rfl) ?_
    refine lv_ifnonnullN hx hb dX7_clash_7 ?_
    refine lv_iconst (v := (-1 : Int32)) hx hb dX7_clash_10 (by decide) ?_
    exact mp_iret hx hb hr hlocks (Nat.le_of_ble_eq_true rfl) (Nat.le_of_ble_eq_true rfl) hM hS dX7_clash_11 (⟨by rw [cs_clash, pB_f hq]; rfl, rfl⟩)
abbrev rmX7_count : Room := { frames := 4, cells := 0, slots := 0, locals := 86 }
set_option maxHeartbeats 4000000 in
set_option maxRecDepth 100000 in
theorem c_X7_count (l : Launch) (X : mp_X) (G : mp_G) (A : Nat → Prop) (M : mp_M) (bq : Nat) (l0 : Nat) (l1 : Nat) (l2 : Nat) (l3 : Nat) (tp : Nat) (tz : Nat) (td : Int32) (fl : Int32) (tt : Nat → Int32) (pl : Nat) (ra : Nat → Nat) (Rg : Nat → rg_R) (pn : Nat) (pa : Nat → Nat) (pf : Nat → Int32) (pk : Nat → Int32) (zc : Nat → Nat) (zz : Nat → Nat → zr) (ap : Nat) (aa : Nat → Nat) (dq : Nat → Nat) (av : Nat → Nat → Int32) (dv : Nat → ds_D) (nh : Nat) (ah : Nat → Nat) (vh : Nat → Nat → Int32) (hB : BN G X M bq l0 l1 l2 l3 tp tz td fl tt pl ra Rg pn pa pf pk zc zz ap aa dq av dv nh ah vh) (w : Int32) : mp_Met l X G A yX7_count wsX7_count rmX7_count ([.ref bq, .int w] : List Value) M (fun r M1 => r = some (.int (cs_count tz pl pn ap (Rg pl).2.2 av td w)) ∧ M1 = M) 0 0 := by
  refine mp_ofW (cc := cX7_count) (maxL := 2) (ret := (some .int)) (by decide) rfl (Nat.le_of_ble_eq_true rfl) ?_
  intro p e s m below meth c ls hx hb hr hts hown hlocks hnm hml hC hM hS hl
  have hl : lv_has ls 2 [(0, .ref bq), (1, .int w)] := hl
  have hown : s.vm.findClass RX7 = some m.cls := hown
  have hin_wsX70 : ∀ w ∈ wsX70, w ∈ wsX7_count := fun _ h => List.mem_cons_of_mem _ (List.mem_append_left _ (List.mem_append_left _ (List.mem_append_left _ (List.mem_append_right _ h))))
  have fl_40 := hts (.fieldLink RX7 40 "PlanningBench" "today" "I") (List.mem_of_getElem? (i := 1) rfl)
  have fl_10 := hts (.fieldLink RX7 10 "PlanningBench" "plots" "Ljava/util/ArrayList;") (List.mem_of_getElem? (i := 2) rfl)
  have fl_16 := hts (.fieldLink RX7 16 "PlanningBench" "plans" "Ljava/util/ArrayList;") (List.mem_of_getElem? (i := 3) rfl)
  have fl_19 := hts (.fieldLink RX7 19 "PlanningBench" "applications" "Ljava/util/ArrayList;") (List.mem_of_getElem? (i := 4) rfl)
  have fl_36 := hts (.fieldLink RX7 36 "PlanningBench" "taped" "I") (List.mem_of_getElem? (i := 5) rfl)
  have fl_32 := hts (.fieldLink RX7 32 "PlanningBench" "draft" "LPlanningBench$Ring;") (List.mem_of_getElem? (i := 6) rfl)
  have hin_wsX50 : ∀ w ∈ wsX50, w ∈ wsX7_count := fun _ h => List.mem_cons_of_mem _ (List.mem_append_left _ (List.mem_append_left _ (List.mem_append_right _ h)))
  have nf_54 := hC.2.1 (.fieldLinkNest RX7 54 "PlanningBench$Ring" "size" "I" "PlanningBench") (List.mem_of_getElem? (i := 3) rfl)
  have hb9 := hB.b
  obtain ⟨axd, ayd, hRd, hXd, hYd, hsd⟩ := hB.R (Nat.le_refl pl)
  refine lv_iload_n hx hb dX7_count_0 rfl (lv_at hl 1 rfl) ?_
  by_cases t_0 : w = (0 : Int32)
  · have t_e : w = (0 : Int32) := t_0
    refine lv_tableIn (tgt := 44) (off := 43) hx hb dX7_count_1 (by rw [t_e]; decide) (by rw [t_e]; decide) (by rw [t_e]; rfl) (by decide) ?_
    refine lv_aload_n hx hb dX7_count_44 rfl (lv_at hl 0 rfl) ?_
    refine va_get (D := G.1) (C := RX7) (T := TX7) (N := 9) (ci := 8) hx hb hts hin_wsX70 hown hC.1 (hM.one hB.O) 0 rfl rfl 7 (by decide) fl_40 (fun _ z => z) rfl dX7_count_45 ?_
    exact mp_iret hx hb hr hlocks (Nat.le_of_ble_eq_true rfl) (Nat.le_of_ble_eq_true rfl) hM hS dX7_count_48 (⟨by rw [cs_count, if_pos t_e], rfl⟩)
  by_cases t_1 : w = (1 : Int32)
  · have t_e : w = (1 : Int32) := t_1
    refine lv_tableIn (tgt := 49) (off := 48) hx hb dX7_count_1 (by rw [t_e]; decide) (by rw [t_e]; decide) (by rw [t_e]; rfl) (by decide) ?_
    refine lv_aload_n hx hb dX7_count_49 rfl (lv_at hl 0 rfl) ?_
    refine va_get (D := G.1) (C := RX7) (T := TX7) (N := 9) (ci := 8) hx hb hts hin_wsX70 hown hC.1 (hM.one hB.O) 0 rfl rfl 0 (by decide) fl_10 (fun _ z => z) rfl dX7_count_50 ?_
    refine mp_calli (va_runV (As := []) (rest := []) ⟨hx, hb, hml, hown, hts⟩ (c_size l X G A (M) hB.L0) (cwV 0 hts gX7_count_Jx4a65c_size_8abf5 rfl rfl rfl (by decide +kernel) ⟨Nat.le_of_ble_eq_true rfl, Nat.le_of_ble_eq_true rfl⟩) (mp_preV hC hS hM (mp_recvL hC.1 hM hB.L0)) rfl rfl hl.1 rfl (lv_room (Nat.le_of_ble_eq_true rfl)) dX7_count_53 ⟨Nat.le_of_ble_eq_true rfl, Nat.le_of_ble_eq_true rfl⟩) hS (fun H locs hM hS => ?_)
    exact mp_iret hx hb hr hlocks (Nat.le_of_ble_eq_true rfl) (Nat.le_of_ble_eq_true rfl) hM hS dX7_count_56 (⟨by rw [cs_count, if_neg t_0, if_pos t_e], rfl⟩)
  by_cases t_2 : w = (2 : Int32)
  · have t_e : w = (2 : Int32) := t_2
    refine lv_tableIn (tgt := 57) (off := 56) hx hb dX7_count_1 (by rw [t_e]; decide) (by rw [t_e]; decide) (by rw [t_e]; rfl) (by decide) ?_
    refine lv_aload_n hx hb dX7_count_57 rfl (lv_at hl 0 rfl) ?_
    refine va_get (D := G.1) (C := RX7) (T := TX7) (N := 9) (ci := 8) hx hb hts hin_wsX70 hown hC.1 (hM.one hB.O) 0 rfl rfl 1 (by decide) fl_16 (fun _ z => z) rfl dX7_count_58 ?_
    refine mp_calli (va_runV (As := []) (rest := []) ⟨hx, hb, hml, hown, hts⟩ (c_size l X G A (M) hB.L1) (cwV 0 hts gX7_count_Jx4a65c_size_8abf5 rfl rfl rfl (by decide +kernel) ⟨Nat.le_of_ble_eq_true rfl, Nat.le_of_ble_eq_true rfl⟩) (mp_preV hC hS hM (mp_recvL hC.1 hM hB.L1)) rfl rfl hl.1 rfl (lv_room (Nat.le_of_ble_eq_true rfl)) dX7_count_61 ⟨Nat.le_of_ble_eq_true rfl, Nat.le_of_ble_eq_true rfl⟩) hS (fun H locs hM hS => ?_)
    exact mp_iret hx hb hr hlocks (Nat.le_of_ble_eq_true rfl) (Nat.le_of_ble_eq_true rfl) hM hS dX7_count_64 (⟨by rw [cs_count, if_neg t_0, if_neg t_1, if_pos t_e], rfl⟩)
  by_cases t_3 : w = (3 : Int32)
  · have t_e : w = (3 : Int32) := t_3
    refine lv_tableIn (tgt := 65) (off := 64) hx hb dX7_count_1 (by rw [t_e]; decide) (by rw [t_e]; decide) (by rw [t_e]; rfl) (by decide) ?_
    refine lv_aload_n hx hb dX7_count_65 rfl (lv_at hl 0 rfl) ?_
    refine va_get (D := G.1) (C := RX7) (T := TX7) (N := 9) (ci := 8) hx hb hts hin_wsX70 hown hC.1 (hM.one hB.O) 0 rfl rfl 2 (by decide) fl_19 (fun _ z => z) rfl dX7_count_66 ?_
    refine mp_calli (va_runV (As := []) (rest := []) ⟨hx, hb, hml, hown, hts⟩ (c_size l X G A (M) hB.L2) (cwV 0 hts gX7_count_Jx4a65c_size_8abf5 rfl rfl rfl (by decide +kernel) ⟨Nat.le_of_ble_eq_true rfl, Nat.le_of_ble_eq_true rfl⟩) (mp_preV hC hS hM (mp_recvL hC.1 hM hB.L2)) rfl rfl hl.1 rfl (lv_room (Nat.le_of_ble_eq_true rfl)) dX7_count_69 ⟨Nat.le_of_ble_eq_true rfl, Nat.le_of_ble_eq_true rfl⟩) hS (fun H locs hM hS => ?_)
    exact mp_iret hx hb hr hlocks (Nat.le_of_ble_eq_true rfl) (Nat.le_of_ble_eq_true rfl) hM hS dX7_count_72 (⟨by rw [cs_count, if_neg t_0, if_neg t_1, if_neg t_2, if_pos t_e], rfl⟩)
  by_cases t_4 : w = (4 : Int32)
  · have t_e : w = (4 : Int32) := t_4
    refine lv_tableIn (tgt := 73) (off := 72) hx hb dX7_count_1 (by rw [t_e]; decide) (by rw [t_e]; decide) (by rw [t_e]; rfl) (by decide) ?_
    refine lv_aload_n hx hb dX7_count_73 rfl (lv_at hl 0 rfl) ?_
    refine va_get (D := G.1) (C := RX7) (T := TX7) (N := 9) (ci := 8) hx hb hts hin_wsX70 hown hC.1 (hM.one hB.O) 0 rfl rfl 6 (by decide) fl_36 (fun _ z => z) rfl dX7_count_74 ?_
    exact mp_iret hx hb hr hlocks (Nat.le_of_ble_eq_true rfl) (Nat.le_of_ble_eq_true rfl) hM hS dX7_count_77 (⟨by rw [cs_count, if_neg t_0, if_neg t_1, if_neg t_2, if_neg t_3, if_pos t_e], rfl⟩)
  by_cases t_5 : w = (5 : Int32)
  · have t_e : w = (5 : Int32) := t_5
    refine lv_tableIn (tgt := 78) (off := 77) hx hb dX7_count_1 (by rw [t_e]; decide) (by rw [t_e]; decide) (by rw [t_e]; rfl) (by decide) ?_
    refine lv_aload_n hx hb dX7_count_78 rfl (lv_at hl 0 rfl) ?_
    refine va_get (D := G.1) (C := RX7) (T := TX7) (N := 9) (ci := 8) hx hb hts hin_wsX70 hown hC.1 (hM.one hB.O) 0 rfl rfl 5 (by decide) fl_32 (fun _ z => z) rfl dX7_count_79 ?_
    refine va_getN (D := G.1) (C := RX5) (T := TX5) (N := 3) (ci := 6) hx hb hts hin_wsX50 hown hC.1 (hM.one hRd) 0 rfl rfl 2 (by decide) (va_Nw.use rfl nf_54) (fun _ z => z) rfl dX7_count_82 ?_
    exact mp_iret hx hb hr hlocks (Nat.le_of_ble_eq_true rfl) (Nat.le_of_ble_eq_true rfl) hM hS dX7_count_85 (⟨by rw [cs_count, if_neg t_0, if_neg t_1, if_neg t_2, if_neg t_3, if_neg t_4, if_pos t_e], rfl⟩)
  by_cases t_6 : w = (6 : Int32)
  · have t_e : w = (6 : Int32) := t_6
    refine lv_tableIn (tgt := 86) (off := 85) hx hb dX7_count_1 (by rw [t_e]; decide) (by rw [t_e]; decide) (by rw [t_e]; rfl) (by decide) ?_
    refine lv_aload_n hx hb dX7_count_86 rfl (lv_at hl 0 rfl) ?_
    refine mp_calli (va_runV (As := []) (rest := []) ⟨hx, hb, hml, hown, hts⟩ (c_X7_standingToday l X G A (M) bq l0 l1 l2 l3 tp tz td fl tt pl ra Rg pn pa pf pk zc zz ap aa dq av dv nh ah vh hB) (cwV 0 hts gX7_count_X7_standingToday rfl rfl rfl (by decide +kernel) ⟨Nat.le_of_ble_eq_true rfl, Nat.le_of_ble_eq_true rfl⟩) (mp_preV hC hS hM (mp_recv hC.1 hM hB.O (r := (RX7, TX7, 9)) rfl)) rfl rfl hl.1 rfl (lv_room (Nat.le_of_ble_eq_true rfl)) dX7_count_87 ⟨Nat.le_of_ble_eq_true rfl, Nat.le_of_ble_eq_true rfl⟩) hS (fun H locs hM hS => ?_)
    exact mp_iret hx hb hr hlocks (Nat.le_of_ble_eq_true rfl) (Nat.le_of_ble_eq_true rfl) hM hS dX7_count_90 (⟨by rw [cs_count, if_neg t_0, if_neg t_1, if_neg t_2, if_neg t_3, if_neg t_4, if_neg t_5, if_pos t_e], rfl⟩)
  refine lv_tableOut (tgt := 91) hx hb dX7_count_1 (by have u_0 := lv_neT t_0 (a := 0) rfl; have u_1 := lv_neT t_1 (a := 1) rfl; have u_2 := lv_neT t_2 (a := 2) rfl; have u_3 := lv_neT t_3 (a := 3) rfl; have u_4 := lv_neT t_4 (a := 4) rfl; have u_5 := lv_neT t_5 (a := 5) rfl; have u_6 := lv_neT t_6 (a := 6) rfl; omega) (by decide) ?_
  refine lv_iconst (v := (-1 : Int32)) hx hb dX7_count_91 (by decide) ?_
  exact mp_iret hx hb hr hlocks (Nat.le_of_ble_eq_true rfl) (Nat.le_of_ble_eq_true rfl) hM hS dX7_count_92 (⟨by rw [cs_count, if_neg t_0, if_neg t_1, if_neg t_2, if_neg t_3, if_neg t_4, if_neg t_5, if_neg t_6], rfl⟩)
abbrev rmX7_holder : Room := { frames := 4, cells := 0, slots := 0, locals := 85 }
set_option maxHeartbeats 4000000 in
set_option maxRecDepth 100000 in
theorem c_X7_holder (l : Launch) (X : mp_X) (G : mp_G) (A : Nat → Prop) (M : mp_M) (bq : Nat) (l0 : Nat) (l1 : Nat) (l2 : Nat) (l3 : Nat) (tp : Nat) (tz : Nat) (td : Int32) (fl : Int32) (tt : Nat → Int32) (pl : Nat) (ra : Nat → Nat) (Rg : Nat → rg_R) (pn : Nat) (pa : Nat → Nat) (pf : Nat → Int32) (pk : Nat → Int32) (zc : Nat → Nat) (zz : Nat → Nat → zr) (ap : Nat) (aa : Nat → Nat) (dq : Nat → Nat) (av : Nat → Nat → Int32) (dv : Nat → ds_D) (nh : Nat) (ah : Nat → Nat) (vh : Nat → Nat → Int32) (hB : BN G X M bq l0 l1 l2 l3 tp tz td fl tt pl ra Rg pn pa pf pk zc zz ap aa dq av dv nh ah vh) (q d k : Int32) : mp_Met l X G A yX7_holder wsX7_holder rmX7_holder ([.ref bq, .int q, .int d, .int k] : List Value) M (fun r M1 => r = some (.int (cs_holder pl nh vh q d k)) ∧ M1 = M) 0 0 := by
  refine mp_ofW (cc := cX7_holder) (maxL := 8) (ret := (some .int)) (by decide) rfl (Nat.le_of_ble_eq_true rfl) ?_
  intro p e s m below meth c ls hx hb hr hts hown hlocks hnm hml hC hM hS hl
  have hl : lv_has ls 8 [(0, .ref bq), (1, .int q), (2, .int d), (3, .int k)] := hl
  have hown : s.vm.findClass RX7 = some m.cls := hown
  have hin_wsX70 : ∀ w ∈ wsX70, w ∈ wsX7_holder := fun _ h => List.mem_cons_of_mem _ (List.mem_append_left _ (List.mem_append_left _ (List.mem_append_right _ h)))
  have fl_22 := hts (.fieldLink RX7 22 "PlanningBench" "holdings" "Ljava/util/ArrayList;") (List.mem_of_getElem? (i := 1) rfl)
  have cl_271 := hts (.classLink RX7 271 "PlanningBench$Holding") (List.mem_of_getElem? (i := 2) rfl)
  have hin_wsX20 : ∀ w ∈ wsX20, w ∈ wsX7_holder := fun _ h => List.mem_cons_of_mem _ (List.mem_append_left _ (List.mem_append_right _ h))
  have nf_276 := hC.2.1 (.fieldLinkNest RX7 276 "PlanningBench$Holding" "plot" "I" "PlanningBench") (List.mem_of_getElem? (i := 24) rfl)
  have nf_277 := hC.2.1 (.fieldLinkNest RX7 277 "PlanningBench$Holding" "knownFrom" "I" "PlanningBench") (List.mem_of_getElem? (i := 27) rfl)
  have nf_278 := hC.2.1 (.fieldLinkNest RX7 278 "PlanningBench$Holding" "since" "I" "PlanningBench") (List.mem_of_getElem? (i := 26) rfl)
  have nf_281 := hC.2.1 (.fieldLinkNest RX7 281 "PlanningBench$Holding" "person" "I" "PlanningBench") (List.mem_of_getElem? (i := 25) rfl)
  have hb9 := hB.b
  refine lv_aload_n hx hb dX7_holder_0 rfl (lv_at hl 0 rfl) ?_
  refine lv_iload_n hx hb dX7_holder_1 rfl (lv_at hl 1 rfl) ?_
  by_cases hq : isAt q pl
  · skip
    obtain ⟨i0, hi0, ei0⟩ := id hq
    have ni0 : q.toNatClampNeg = i0 := by rw [ei0]; exact nI_clamp (by omega)
    refine mp_top (nI i0) ei0 ?_
    refine mp_callr (va_runV (As := [.int (nI i0)]) (rest := []) ⟨hx, hb, hml, hown, hts⟩ (c_X7_ringAt l X G A (M) bq l0 l1 l2 l3 tp tz td fl tt pl ra Rg pn pa pf pk zc zz ap aa dq av dv nh ah vh hB i0 hi0) (cwV 1 hts gX7_holder_X7_ringAt rfl rfl rfl (by decide +kernel) ⟨Nat.le_of_ble_eq_true rfl, Nat.le_of_ble_eq_true rfl⟩) (mp_preV hC hS hM (mp_recv hC.1 hM hB.O (r := (RX7, TX7, 9)) rfl)) rfl rfl hl.1 rfl (lv_room (Nat.le_of_ble_eq_true rfl)) dX7_holder_2 ⟨Nat.le_of_ble_eq_true rfl, Nat.le_of_ble_eq_true rfl⟩) hS (fun H locs hM hS => ?_)
    obtain ⟨ax_i0, ay_i0, hR_i0, hX_i0, hY_i0, hs_i0⟩ := hB.R (i := i0) (by omega)
    refine lv_ifnull hx hb dX7_holder_5 ?_
    refine lv_iload_n hx hb dX7_holder_8 rfl (lv_at hl 2 rfl) ?_
    refine mp_calli (va_runS (As := [.int d]) (rest := []) ⟨hx, hb, hml, hown, hts⟩ (c_X7_isDay l X G A (M) d) (va_cwS 1 hts gX7_holder_X7_isDay rfl rfl rfl (by decide +kernel) ⟨Nat.le_of_ble_eq_true rfl, Nat.le_of_ble_eq_true rfl⟩) (mp_preS hC hS hM) rfl rfl hl.1 rfl (lv_room (Nat.le_of_ble_eq_true rfl)) dX7_holder_9 ⟨Nat.le_of_ble_eq_true rfl, Nat.le_of_ble_eq_true rfl⟩) hS (fun H locs hM hS => ?_)
    refine lv_if_eq (tgt := 22) hx hb dX7_holder_12 (by decide) (fun c1 => ?_) (fun c1 => ?_)
    · have c1 : (pB (md_in d 0 9999)) = false := bI_0.mp c1
      refine lv_iconst (v := (-1 : Int32)) hx hb dX7_holder_22 (by decide) ?_
      exact mp_iret hx hb hr hlocks (Nat.le_of_ble_eq_true rfl) (Nat.le_of_ble_eq_true rfl) hM hS dX7_holder_23 (⟨by rw [cs_holder, pB_f (show ¬ (isAt q pl ∧ md_in d 0 9999 ∧ md_in k 0 9999) from fun z => pB_not.mp c1 z.2.1)]; rfl, rfl⟩)
    · have c1 : (pB (md_in d 0 9999)) = true := bI_1.mp c1
      refine lv_iload_n hx hb dX7_holder_15 rfl (lv_at hl 3 rfl) ?_
      refine mp_calli (va_runS (As := [.int k]) (rest := []) ⟨hx, hb, hml, hown, hts⟩ (c_X7_isDay l X G A (M) k) (va_cwS 1 hts gX7_holder_X7_isDay rfl rfl rfl (by decide +kernel) ⟨Nat.le_of_ble_eq_true rfl, Nat.le_of_ble_eq_true rfl⟩) (mp_preS hC hS hM) rfl rfl hl.1 rfl (lv_room (Nat.le_of_ble_eq_true rfl)) dX7_holder_16 ⟨Nat.le_of_ble_eq_true rfl, Nat.le_of_ble_eq_true rfl⟩) hS (fun H locs hM hS => ?_)
      refine lv_if_ne (tgt := 24) hx hb dX7_holder_19 (by decide) (fun c2_ => ?_) (fun c2_ => ?_)
      · have c2_ : (pB (md_in k 0 9999)) = true := bI_1.mp c2_
        refine lv_iconst (v := (-1 : Int32)) hx hb dX7_holder_24 (by decide) ?_
        refine lv_istore (lv' := [(4, .int (-1 : Int32)), (0, .ref bq), (1, .int q), (2, .int d), (3, .int k)]) hx hb dX7_holder_25 hl (by decide) rfl (fun ls hl => ?_)
        refine lv_iconst (v := (-1 : Int32)) hx hb dX7_holder_27 (by decide) ?_
        refine lv_istore (lv' := [(5, .int (-1 : Int32)), (4, .int (-1 : Int32)), (0, .ref bq), (1, .int q), (2, .int d), (3, .int k)]) hx hb dX7_holder_28 hl (by decide) rfl (fun ls hl => ?_)
        refine lv_iconst (v := (0 : Int32)) hx hb dX7_holder_30 (by decide) ?_
        refine lv_istore (lv' := [(6, .int (0 : Int32)), (5, .int (-1 : Int32)), (4, .int (-1 : Int32)), (0, .ref bq), (1, .int q), (2, .int d), (3, .int k)]) hx hb dX7_holder_31 hl (by decide) rfl (fun ls hl => ?_)
        have LP33 : ∀ (kk : Nat) (i : Nat) (ls : Array Slot) (H : Heap) (locs : List Loc), nh - i < kk → i ≤ nh → mp_P G.1 A M H → va_S A s.heap H locs → lv_has ls 8 [(0, .ref bq), (1, .int q), (2, .int d), (3, .int k), (4, .int (bfr (fun i => vh i 1) (bst (cs_hoP vh q d k) (fun i => vh i 2) i))), (5, .int (bfr (fun i => vh i 2) (bst (cs_hoP vh q d k) (fun i => vh i 2) i))), (6, .int (nI i))] → W p l e rmX7_holder s m ([.ref bq, .int q, .int d, .int k] : List Value).toArray below meth c H locs 0 0 (MQ below (mp_Q G.1 A (fun r M1 => r = some (.int (cs_holder pl nh vh q d k)) ∧ M1 = M)) ([.ref bq, .int q, .int d, .int k] : List Value).toArray s 0 0 A) (F0 m 33 ls []) := by
          intro kk
          induction kk with
          | zero => intro i ls H locs hk; exact absurd hk (Nat.not_lt_zero _)
          | succ kk ih =>
            intro i ls H locs hk hi hM hS hl
            refine lv_iload hx hb dX7_holder_33 (lv_at hl 6 rfl) ?_
            refine lv_aload_n hx hb dX7_holder_35 rfl (lv_at hl 0 rfl) ?_
            refine va_get (D := G.1) (C := RX7) (T := TX7) (N := 9) (ci := 8) hx hb hts hin_wsX70 hown hC.1 (hM.one hB.O) 0 rfl rfl 3 (by decide) fl_22 (fun _ z => z) rfl dX7_holder_36 ?_
            refine mp_calli (va_runV (As := []) (rest := [.int (nI i)]) ⟨hx, hb, hml, hown, hts⟩ (c_size l X G A (M) hB.L3) (cwV 0 hts gX7_holder_Jx4a65c_size_8abf5 rfl rfl rfl (by decide +kernel) ⟨Nat.le_of_ble_eq_true rfl, Nat.le_of_ble_eq_true rfl⟩) (mp_preV hC hS hM (mp_recvL hC.1 hM hB.L3)) rfl rfl hl.1 rfl (lv_room (Nat.le_of_ble_eq_true rfl)) dX7_holder_39 ⟨Nat.le_of_ble_eq_true rfl, Nat.le_of_ble_eq_true rfl⟩) hS (fun H locs hM hS => ?_)
            refine lv_icmp_ge (tgt := 116) hx hb dX7_holder_42 (by decide) (fun c9 => ?_) (fun c9 => ?_)
            · have c9 := nn_le (a := nh) (b := i) (by omega) (by omega) c9
              refine lv_iload hx hb dX7_holder_116 (lv_at hl 4 rfl) ?_
              exact mp_iret hx hb hr hlocks (Nat.le_of_ble_eq_true rfl) (Nat.le_of_ble_eq_true rfl) hM hS dX7_holder_118 (⟨by rw [cs_holder, pB_t (show isAt q pl ∧ md_in d 0 9999 ∧ md_in k 0 9999 from ⟨hq, pB_iff.mp c1, pB_iff.mp c2_⟩), if_pos rfl, show i = nh by omega], rfl⟩)
            · have c9 := nn_nle (a := nh) (b := i) (by omega) (by omega) c9
              refine lv_aload_n hx hb dX7_holder_45 rfl (lv_at hl 0 rfl) ?_
              refine va_get (D := G.1) (C := RX7) (T := TX7) (N := 9) (ci := 8) hx hb hts hin_wsX70 hown hC.1 (hM.one hB.O) 0 rfl rfl 3 (by decide) fl_22 (fun _ z => z) rfl dX7_holder_46 ?_
              refine lv_iload hx hb dX7_holder_49 (lv_at hl 6 rfl) ?_
              refine mp_callr (va_runV (As := [.int (nI i)]) (rest := []) ⟨hx, hb, hml, hown, hts⟩ (c_get l X G A (M) hB.L3 i (by omega)) (cwV 1 hts gX7_holder_Jx4a65c_get_915e3 rfl rfl rfl (by decide +kernel) ⟨Nat.le_of_ble_eq_true rfl, Nat.le_of_ble_eq_true rfl⟩) (mp_preV hC hS hM (mp_recvL hC.1 hM hB.L3)) rfl rfl hl.1 rfl (lv_room (Nat.le_of_ble_eq_true rfl)) dX7_holder_51 ⟨Nat.le_of_ble_eq_true rfl, Nat.le_of_ble_eq_true rfl⟩) hS (fun H locs hM hS => ?_)
              refine va_castS hx hb hown cl_271 (hC.1.1 3 (RX2, TX2, 4) rfl).2 (mp_recv hC.1 hM (hB.H (i := i) (by omega)) (r := (RX2, TX2, 4)) rfl) dX7_holder_54 ?_
              refine lv_astore (lv' := [(7, .ref (ah i)), (0, .ref bq), (1, .int q), (2, .int d), (3, .int k), (4, .int (bfr (fun i => vh i 1) (bst (cs_hoP vh q d k) (fun i => vh i 2) i))), (5, .int (bfr (fun i => vh i 2) (bst (cs_hoP vh q d k) (fun i => vh i 2) i))), (6, .int (nI i))]) hx hb dX7_holder_57 hl (by decide) rfl (fun ls hl => ?_)
              refine lv_aload hx hb dX7_holder_59 (lv_at hl 0 rfl) ?_
              refine va_getN (D := G.1) (C := RX2) (T := TX2) (N := 4) (ci := 3) hx hb hts hin_wsX20 hown hC.1 (hM.one (hB.H (i := i) (by omega))) 0 rfl rfl 0 (by decide) (va_Nw.use rfl nf_276) (fun _ z => z) rfl dX7_holder_61 ?_
              refine lv_iload_n hx hb dX7_holder_64 rfl (lv_at hl 2 rfl) ?_
              refine lv_icmp_ne (tgt := 110) hx hb dX7_holder_65 (by decide) (fun c3 => ?_) (fun c3 => ?_)
              · have c3 := c3
                refine lv_iinc (v := nI (i + 1)) (lv' := [(6, .int (nI (i + 1))), (7, .ref (ah i)), (0, .ref bq), (1, .int q), (2, .int d), (3, .int k), (4, .int (bfr (fun i => vh i 1) (bst (cs_hoP vh q d k) (fun i => vh i 2) i))), (5, .int (bfr (fun i => vh i 2) (bst (cs_hoP vh q d k) (fun i => vh i 2) i)))]) hx hb dX7_holder_110 hl (k := 7) rfl (nI_1 i) (by decide) rfl (fun ls hl => ?_)
                refine lv_goto (tgt := 33) hx hb dX7_holder_113 (by decide) ?_
                exact ih (i + 1) ls _ _ (by omega) (by omega) hM hS (by rw [bst_no (fun z => c3 z.1.1)]; exact (lv_sub hl [2, 3, 4, 5, 6, 7, 0] rfl))
              · have c3 := c3
                refine lv_aload hx hb dX7_holder_68 (lv_at hl 0 rfl) ?_
                refine va_getN (D := G.1) (C := RX2) (T := TX2) (N := 4) (ci := 3) hx hb hts hin_wsX20 hown hC.1 (hM.one (hB.H (i := i) (by omega))) 0 rfl rfl 3 (by decide) (va_Nw.use rfl nf_277) (fun _ z => z) rfl dX7_holder_70 ?_
                refine lv_iload_n hx hb dX7_holder_73 rfl (lv_at hl 4 rfl) ?_
                refine lv_icmp_gt (tgt := 110) hx hb dX7_holder_74 (by decide) (fun c4 => ?_) (fun c4 => ?_)
                · have c4 := c4
                  refine lv_iinc (v := nI (i + 1)) (lv' := [(6, .int (nI (i + 1))), (7, .ref (ah i)), (0, .ref bq), (1, .int q), (2, .int d), (3, .int k), (4, .int (bfr (fun i => vh i 1) (bst (cs_hoP vh q d k) (fun i => vh i 2) i))), (5, .int (bfr (fun i => vh i 2) (bst (cs_hoP vh q d k) (fun i => vh i 2) i)))]) hx hb dX7_holder_110 hl (k := 7) rfl (nI_1 i) (by decide) rfl (fun ls hl => ?_)
                  refine lv_goto (tgt := 33) hx hb dX7_holder_113 (by decide) ?_
                  exact ih (i + 1) ls _ _ (by omega) (by omega) hM hS (by rw [bst_no (fun z => absurd z.1.2.2 (i_nle.mpr c4))]; exact (lv_sub hl [2, 3, 4, 5, 6, 7, 0] rfl))
                · have c4 := c4
                  refine lv_aload hx hb dX7_holder_77 (lv_at hl 0 rfl) ?_
                  refine va_getN (D := G.1) (C := RX2) (T := TX2) (N := 4) (ci := 3) hx hb hts hin_wsX20 hown hC.1 (hM.one (hB.H (i := i) (by omega))) 0 rfl rfl 2 (by decide) (va_Nw.use rfl nf_278) (fun _ z => z) rfl dX7_holder_79 ?_
                  refine lv_iload_n hx hb dX7_holder_82 rfl (lv_at hl 3 rfl) ?_
                  refine lv_icmp_gt (tgt := 110) hx hb dX7_holder_83 (by decide) (fun c5 => ?_) (fun c5 => ?_)
                  · have c5 := c5
                    refine lv_iinc (v := nI (i + 1)) (lv' := [(6, .int (nI (i + 1))), (7, .ref (ah i)), (0, .ref bq), (1, .int q), (2, .int d), (3, .int k), (4, .int (bfr (fun i => vh i 1) (bst (cs_hoP vh q d k) (fun i => vh i 2) i))), (5, .int (bfr (fun i => vh i 2) (bst (cs_hoP vh q d k) (fun i => vh i 2) i)))]) hx hb dX7_holder_110 hl (k := 7) rfl (nI_1 i) (by decide) rfl (fun ls hl => ?_)
                    refine lv_goto (tgt := 33) hx hb dX7_holder_113 (by decide) ?_
                    exact ih (i + 1) ls _ _ (by omega) (by omega) hM hS (by rw [bst_no (fun z => absurd z.1.2.1 (i_nle.mpr c5))]; exact (lv_sub hl [2, 3, 4, 5, 6, 7, 0] rfl))
                  · have c5 := c5
                    refine lv_aload hx hb dX7_holder_86 (lv_at hl 0 rfl) ?_
                    refine va_getN (D := G.1) (C := RX2) (T := TX2) (N := 4) (ci := 3) hx hb hts hin_wsX20 hown hC.1 (hM.one (hB.H (i := i) (by omega))) 0 rfl rfl 2 (by decide) (va_Nw.use rfl nf_278) (fun _ z => z) rfl dX7_holder_88 ?_
                    refine lv_iload hx hb dX7_holder_91 (lv_at hl 6 rfl) ?_
                    refine lv_icmp_lt (tgt := 110) hx hb dX7_holder_93 (by decide) (fun c6 => ?_) (fun c6 => ?_)
                    · have c6 := c6
                      refine lv_iinc (v := nI (i + 1)) (lv' := [(6, .int (nI (i + 1))), (7, .ref (ah i)), (0, .ref bq), (1, .int q), (2, .int d), (3, .int k), (4, .int (bfr (fun i => vh i 1) (bst (cs_hoP vh q d k) (fun i => vh i 2) i))), (5, .int (bfr (fun i => vh i 2) (bst (cs_hoP vh q d k) (fun i => vh i 2) i)))]) hx hb dX7_holder_110 hl (k := 7) rfl (nI_1 i) (by decide) rfl (fun ls hl => ?_)
                      refine lv_goto (tgt := 33) hx hb dX7_holder_113 (by decide) ?_
                      exact ih (i + 1) ls _ _ (by omega) (by omega) hM hS (by rw [bf_no (fr := fun i => vh i 2) (hB.H0 (i := i) (by omega)) c6]; exact (lv_sub hl [2, 3, 4, 5, 6, 7, 0] rfl))
                    · have c6 := c6
                      refine lv_aload hx hb dX7_holder_96 (lv_at hl 0 rfl) ?_
                      refine va_getN (D := G.1) (C := RX2) (T := TX2) (N := 4) (ci := 3) hx hb hts hin_wsX20 hown hC.1 (hM.one (hB.H (i := i) (by omega))) 0 rfl rfl 1 (by decide) (va_Nw.use rfl nf_281) (fun _ z => z) rfl dX7_holder_98 ?_
                      refine lv_istore (lv' := [(4, .int (vh i 1)), (7, .ref (ah i)), (0, .ref bq), (1, .int q), (2, .int d), (3, .int k), (5, .int (bfr (fun i => vh i 2) (bst (cs_hoP vh q d k) (fun i => vh i 2) i))), (6, .int (nI i))]) hx hb dX7_holder_101 hl (by decide) rfl (fun ls hl => ?_)
                      refine lv_aload hx hb dX7_holder_103 (lv_at hl 1 rfl) ?_
                      refine va_getN (D := G.1) (C := RX2) (T := TX2) (N := 4) (ci := 3) hx hb hts hin_wsX20 hown hC.1 (hM.one (hB.H (i := i) (by omega))) 0 rfl rfl 2 (by decide) (va_Nw.use rfl nf_278) (fun _ z => z) rfl dX7_holder_105 ?_
                      refine lv_istore (lv' := [(5, .int (vh i 2)), (4, .int (vh i 1)), (7, .ref (ah i)), (0, .ref bq), (1, .int q), (2, .int d), (3, .int k), (6, .int (nI i))]) hx hb dX7_holder_108 hl (by decide) rfl (fun ls hl => ?_)
                      refine lv_iinc (v := nI (i + 1)) (lv' := [(6, .int (nI (i + 1))), (5, .int (vh i 2)), (4, .int (vh i 1)), (7, .ref (ah i)), (0, .ref bq), (1, .int q), (2, .int d), (3, .int k)]) hx hb dX7_holder_110 hl (k := 7) rfl (nI_1 i) (by decide) rfl (fun ls hl => ?_)
                      refine lv_goto (tgt := 33) hx hb dX7_holder_113 (by decide) ?_
                      exact ih (i + 1) ls _ _ (by omega) (by omega) hM hS (by rw [bf_up (fr := fun i => vh i 2) (show cs_hoP vh q d k i from ⟨c3, i_nlt.mp c5, i_nlt.mp c4⟩) c6]; exact (lv_sub hl [4, 5, 6, 7, 2, 1, 0] rfl))
        exact LP33 _ 0 ls _ _ (Nat.lt_succ_self _) (Nat.zero_le _) hM hS (lv_sub hl [3, 4, 5, 6, 2, 1, 0] rfl)
      · have c2_ : (pB (md_in k 0 9999)) = false := bI_0.mp c2_
        refine lv_iconst (v := (-1 : Int32)) hx hb dX7_holder_22 (by decide) ?_
        exact mp_iret hx hb hr hlocks (Nat.le_of_ble_eq_true rfl) (Nat.le_of_ble_eq_true rfl) hM hS dX7_holder_23 (⟨by rw [cs_holder, pB_f (show ¬ (isAt q pl ∧ md_in d 0 9999 ∧ md_in k 0 9999) from fun z => pB_not.mp c2_ z.2.2)]; rfl, rfl⟩)
  · skip
    refine mp_calln (va_runV (As := [.int q]) (rest := []) ⟨hx, hb, hml, hown, hts⟩ (c_X7_ringAt_n l X G A (M) bq l0 l1 l2 l3 tp tz td fl tt pl ra Rg pn pa pf pk zc zz ap aa dq av dv nh ah vh hB q hq) (cwV 1 hts gX7_holder_X7_ringAt rfl rfl rfl (by decide +kernel) ⟨Nat.le_of_ble_eq_true rfl, Nat.le_of_ble_eq_true rfl⟩) (mp_preV hC hS hM (mp_recv hC.1 hM hB.O (r := (RX7, TX7, 9)) rfl)) rfl rfl hl.1 rfl (lv_room (Nat.le_of_ble_eq_true rfl)) dX7_holder_2 ⟨Nat.le_of_ble_eq_true rfl, Nat.le_of_ble_eq_true rfl⟩) hS (fun H locs hM hS => ?_)
    refine lv_ifnullN (tgt := 22) hx hb dX7_holder_5 (by decide) ?_
    refine lv_iconst (v := (-1 : Int32)) hx hb dX7_holder_22 (by decide) ?_
    exact mp_iret hx hb hr hlocks (Nat.le_of_ble_eq_true rfl) (Nat.le_of_ble_eq_true rfl) hM hS dX7_holder_23 (⟨by rw [cs_holder, pB_f (show ¬ (isAt q pl ∧ md_in d 0 9999 ∧ md_in k 0 9999) from fun z => hq z.1)]; rfl, rfl⟩)
