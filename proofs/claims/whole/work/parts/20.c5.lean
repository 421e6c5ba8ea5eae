theorem hb_qn {G : hb_G} {p e : Nat} {i v j : Int} (h : p < 77) : hb_u2 G p i v (77 + e) j = G (77 + e) j := by rw [hb_u2_n (by omega)]
/-- beginThing, task by task -/
def hb_by (G : hb_G) (t : Int) (n : Nat) : hb_G := match n with
  | 0 => hb_u2 (hb_u2 G 38 t (G 9 t)) 39 t (G 10 t)
  | k + 1 => if 0 ≤ (k : Int) ∧ (k : Int) < 16 ∧ hb_by G t k 13 k ≠ -1 then hb_u2 (hb_u2 (hb_u2 (hb_by G t k) 41 (t * 16 + k) (hb_by G t k 38 t + hb_by G t k 15 k)) 42 (t * 16 + k) (hb_by G t k 39 t + hb_by G t k 16 k)) 43 (t * 16 + k) (hb_by G t k 17 k) else hb_by G t k
def hb_bg0 (G : hb_G) : hb_G := hb_fil (hb_fil (hb_fil (hb_fil (hb_fil (hb_u2 G 32 10 0) 34 40 (-1)) 35 40 (-1)) 36 160 (-1)) 44 40 0) 45 40 0
/-- begin, thing by thing -/
def hb_bg (G : hb_G) (n : Nat) : hb_G := match n with
  | 0 => hb_bg0 G
  | k + 1 => if 0 ≤ (k : Int) ∧ (k : Int) < 40 ∧ hb_bg G k 7 k ≠ -1 then hb_by (hb_bg G k) k 16 else hb_bg G k
/-- a flight, thing by thing -/
def hb_fy (G : hb_G) (q n : Nat) : hb_G := match n with
  | 0 => G
  | k + 1 => if hb_tp (hb_fy G q k 34) 4 k = hb_fy G q k q 1 then hb_u2 (hb_u2 (hb_fy G q k) 38 k (hb_fy G q k 38 k + hb_fy G q k q 6)) 39 k (hb_fy G q k 39 k + hb_fy G q k q 7) else hb_fy G q k
def hb_d1 (c du iv gr : Int) : Int := (if 0 < c - du ∧ c - du ≤ gr then du else c) + iv
def hb_du (S : hb_G) (q : Nat) (k i : Int) (u : Nat) : hb_G := hb_u2 S (41 + u) i (hb_d1 (hb_cn S (S q 1) u (S q 2 / 100)) (S (41 + u) i) (S (15 + u) k) (S (15 + u) k * S 18 k / 1000))
def hb_d3 (G : hb_G) (q : Nat) (k i : Int) : hb_G := hb_du (hb_du (hb_du G q k i 0) q k i 1) q k i 2
def hb_dt (G : hb_G) (q : Nat) : hb_G := hb_u2 (hb_d3 G q (G q 4) (G q 1 * 16 + G q 4)) 44 (G q 1) (hb_an (G 44 (G q 1)) (hb_xr (hb_sl 1 (G q 4)) (-1)))
def hb_pu (S : hb_G) (q : Nat) (k : Int) (u : Nat) : hb_G := hb_u2 S (41 + u) (S q 1 * 16 + k) (S (41 + u) (S q 1 * 16 + k) + hb_am S q u)
def hb_p0 (G : hb_G) (q : Nat) : hb_G := hb_u2 G 44 (G q 1) (hb_or (G 44 (G q 1)) (hb_sl 1 (G q 4)))
def hb_pp (G : hb_G) (q : Nat) : hb_G := hb_pu (hb_pu (hb_pu (hb_p0 G q) q (G q 4) 0) q (G q 4) 1) q (G q 4) 2
theorem hb_du_t {S : hb_G} {q : Nat} {k i : Int} {u : Nat} (h : 0 < hb_cn S (S q 1) u (S q 2 / 100) - S (41 + u) i ∧ hb_cn S (S q 1) u (S q 2 / 100) - S (41 + u) i ≤ S (15 + u) k * S 18 k / 1000) : hb_du S q k i u = hb_u2 S (41 + u) i (S (41 + u) i + S (15 + u) k) := by unfold hb_du hb_d1; rw [if_pos h]
theorem hb_du_f {S : hb_G} {q : Nat} {k i : Int} {u : Nat} (h : ¬ (0 < hb_cn S (S q 1) u (S q 2 / 100) - S (41 + u) i ∧ hb_cn S (S q 1) u (S q 2 / 100) - S (41 + u) i ≤ S (15 + u) k * S 18 k / 1000)) : hb_du S q k i u = hb_u2 S (41 + u) i (hb_cn S (S q 1) u (S q 2 / 100) + S (15 + u) k) := by unfold hb_du hb_d1; rw [if_neg h]
def hb_rb (G : hb_G) (q : Nat) : hb_G := hb_u2 G 45 (G q 1) (hb_or (G 45 (G q 1)) (hb_sl 1 (G q 4)))
set_option maxRecDepth 20000 in
set_option maxHeartbeats 1000000 in
theorem c_beginThing {l : Launch} {G : hb_G} {F : hb_F} {na : Nat} {t : Int} (ht : 0 ≤ t ∧ t < 40) (hS : ∀ k, k ≤ 16 → hb_rg (hb_by G t k)) : hb_M l yX4_beginThing cX4_beginThing 4 none 2 0 0 [hb_r 32, hb_i t] (hb_w G F na) (77 + na) (.inl none) (hb_w (hb_by G t 16) F na) (77 + na) := by
  refine hb_M_in rfl rfl (by decide) rfl (Nat.le_of_ble_eq_true rfl) ?_
  intro E z0 σ0
  have key : ∀ (n k : Nat), k + n = 16 → hb_W l RX4 cX4_beginThing 4 none "beginThing" [] E z0 (hb_rm 2 0 0) σ0 (77 + na) (.inl none) (hb_w (hb_by G t 16) F na) (77 + na) 0 0 40 [hb_r 32, hb_i t, hb_i (k : Int)] [] (hb_w (hb_by G t k) F na) (77 + na) := by
    intro n
    induction n with
    | zero =>
      intro k h0
      have e9 : k = 16 := by omega
      subst e9
      refine aw_ild2 dX4_beginThing_40 ?_
      refine aw_bipush dX4_beginThing_41 (by decide) ?_
      refine aw_icmp_ge (tg := 145) dX4_beginThing_43 (by decide) (by first | exact hG _ _ | assumption | (constructor <;> omega)) (by first | exact hG _ _ | assumption | (constructor <;> omega)) (fun c43 => ?_) (fun c43 => absurd c43 (by omega))
      exact aw_vret dX4_beginThing_145 rfl rfl rfl rfl (by decide) (by decide)
    | succ n ih =>
      intro k h0
      have hG := hS k (by omega)
      refine aw_ild2 dX4_beginThing_40 ?_
      refine aw_bipush dX4_beginThing_41 (by decide) ?_
      refine aw_icmp_ge (tg := 145) dX4_beginThing_43 (by decide) (by first | exact hG _ _ | assumption | (constructor <;> omega)) (by first | exact hG _ _ | assumption | (constructor <;> omega)) (fun c43 => absurd c43 (by omega)) (fun c43 => ?_)
      refine aw_ald0 dX4_beginThing_46 ?_
      refine aw_getf dX4_beginThing_47 hbf_X4_34 rfl rfl ?_
      refine aw_ild2 dX4_beginThing_50 ?_
      refine aw_V1v dX4_beginThing_51 (c_tasksHas (by constructor <;> omega) hG) rfl rfl hbY_X5_has hbm_X4_98 hbi_X5_has hbe_X5_X5_has (Nat.le_of_ble_eq_true rfl) ⟨by decide, by decide⟩ (by decide) (by decide) ?_
      refine aw_ifb_eq (tg := 139) dX4_beginThing_54 (by decide) (fun c54 => ?_) (fun c54 => ?_)
      · skip
        refine aw_iinc2 dX4_beginThing_139 (by decide) ?_
        refine aw_goto (tg := 40) dX4_beginThing_142 (by decide) ?_
        refine aw_G (G2 := hb_by G t (k + 1)) (by rw [hb_by]; first | (rw [if_pos (by assumption)]; rfl) | rw [if_neg (by assumption)]) ?_
        exact ih (k + 1) (by omega)
      · skip
        refine aw_ild1 dX4_beginThing_57 ?_
        refine aw_bipush dX4_beginThing_58 (by decide) ?_
        refine aw_imul dX4_beginThing_60 ?_
        refine aw_ild2 dX4_beginThing_61 ?_
        refine aw_iadd dX4_beginThing_62 ?_
        refine aw_ipu3 dX4_beginThing_63 (by decide) ?_
        refine aw_ald0 dX4_beginThing_64 ?_
        refine aw_getf dX4_beginThing_65 hbf_X4_16 rfl rfl ?_
        refine aw_iconst dX4_beginThing_68 ?_
        refine aw_gald (r := some 41) dX4_beginThing_69 rfl (by constructor <;> omega) (by decide) rfl ?_
        refine aw_ild3 dX4_beginThing_70 ?_
        refine aw_ald0 dX4_beginThing_71 ?_
        refine aw_getf dX4_beginThing_72 hbf_X4_11 rfl rfl ?_
        refine aw_iconst dX4_beginThing_75 ?_
        refine aw_gald (r := some 38) dX4_beginThing_76 rfl (by constructor <;> omega) (by decide) rfl ?_
        refine aw_ild1 dX4_beginThing_77 ?_
        refine aw_iald dX4_beginThing_78 rfl (by constructor <;> omega) (by decide) ?_
        refine aw_ald0 dX4_beginThing_79 ?_
        refine aw_getf dX4_beginThing_80 hbf_X4_34 rfl rfl ?_
        refine aw_getf dX4_beginThing_83 hbf_X4_101 rfl rfl ?_
        refine aw_iconst dX4_beginThing_86 ?_
        refine aw_gald (r := some 15) dX4_beginThing_87 rfl (by constructor <;> omega) (by decide) rfl ?_
        refine aw_ild2 dX4_beginThing_88 ?_
        refine aw_iald dX4_beginThing_89 rfl (by constructor <;> omega) (by decide) ?_
        refine aw_iadd dX4_beginThing_90 ?_
        refine aw_iastw dX4_beginThing_91 (fun _ => rfl) rfl (by constructor <;> omega) (by decide) ?_
        refine aw_ald0 dX4_beginThing_92 ?_
        refine aw_getf dX4_beginThing_93 hbf_X4_16 rfl rfl ?_
        refine aw_iconst dX4_beginThing_96 ?_
        refine aw_gald (r := some 42) dX4_beginThing_97 rfl (by constructor <;> omega) (by decide) rfl ?_
        refine aw_ild3 dX4_beginThing_98 ?_
        refine aw_ald0 dX4_beginThing_99 ?_
        refine aw_getf dX4_beginThing_100 hbf_X4_11 rfl rfl ?_
        refine aw_iconst dX4_beginThing_103 ?_
        refine aw_gald (r := some 39) dX4_beginThing_104 rfl (by constructor <;> omega) (by decide) rfl ?_
        refine aw_ild1 dX4_beginThing_105 ?_
        refine aw_iald dX4_beginThing_106 rfl (by constructor <;> omega) (by decide) ?_
        refine aw_ald0 dX4_beginThing_107 ?_
        refine aw_getf dX4_beginThing_108 hbf_X4_34 rfl rfl ?_
        refine aw_getf dX4_beginThing_111 hbf_X4_101 rfl rfl ?_
        refine aw_iconst dX4_beginThing_114 ?_
        refine aw_gald (r := some 16) dX4_beginThing_115 rfl (by constructor <;> omega) (by decide) rfl ?_
        refine aw_ild2 dX4_beginThing_116 ?_
        refine aw_iald dX4_beginThing_117 rfl (by constructor <;> omega) (by decide) ?_
        refine aw_iadd dX4_beginThing_118 ?_
        refine aw_iastw dX4_beginThing_119 (fun _ => rfl) rfl (by constructor <;> omega) (by decide) ?_
        refine aw_ald0 dX4_beginThing_120 ?_
        refine aw_getf dX4_beginThing_121 hbf_X4_16 rfl rfl ?_
        refine aw_iconst dX4_beginThing_124 ?_
        refine aw_gald (r := some 43) dX4_beginThing_125 rfl (by constructor <;> omega) (by decide) rfl ?_
        refine aw_ild3 dX4_beginThing_126 ?_
        refine aw_ald0 dX4_beginThing_127 ?_
        refine aw_getf dX4_beginThing_128 hbf_X4_34 rfl rfl ?_
        refine aw_getf dX4_beginThing_131 hbf_X4_101 rfl rfl ?_
        refine aw_iconst dX4_beginThing_134 ?_
        refine aw_gald (r := some 17) dX4_beginThing_135 rfl (by constructor <;> omega) (by decide) rfl ?_
        refine aw_ild2 dX4_beginThing_136 ?_
        refine aw_iald dX4_beginThing_137 rfl (by constructor <;> omega) (by decide) ?_
        refine aw_iastw dX4_beginThing_138 (fun _ => rfl) rfl (by constructor <;> omega) (by decide) ?_
        refine aw_iinc2 dX4_beginThing_139 (by decide) ?_
        refine aw_goto (tg := 40) dX4_beginThing_142 (by decide) ?_
        refine aw_dk_3_1 ?_
        refine aw_G (G2 := hb_by G t (k + 1)) (by rw [hb_by]; first | (rw [if_pos (by assumption)]; rfl) | rw [if_neg (by assumption)]) ?_
        exact ih (k + 1) (by omega)
  refine aw_ald0 dX4_beginThing_0 ?_
  refine aw_getf dX4_beginThing_1 hbf_X4_11 rfl rfl ?_
  refine aw_iconst dX4_beginThing_4 ?_
  refine aw_gald (r := some 38) dX4_beginThing_5 rfl (by constructor <;> omega) (by decide) rfl ?_
  refine aw_ild1 dX4_beginThing_6 ?_
  refine aw_ald0 dX4_beginThing_7 ?_
  refine aw_getf dX4_beginThing_8 hbf_X4_30 rfl rfl ?_
  refine aw_getf dX4_beginThing_11 hbf_X4_95 rfl rfl ?_
  refine aw_iconst dX4_beginThing_14 ?_
  refine aw_gald (r := some 9) dX4_beginThing_15 rfl (by constructor <;> omega) (by decide) rfl ?_
  refine aw_ild1 dX4_beginThing_16 ?_
  refine aw_iald dX4_beginThing_17 rfl (by constructor <;> omega) (by decide) ?_
  refine aw_iastw dX4_beginThing_18 (fun _ => rfl) rfl (by constructor <;> omega) (by decide) ?_
  refine aw_ald0 dX4_beginThing_19 ?_
  refine aw_getf dX4_beginThing_20 hbf_X4_11 rfl rfl ?_
  refine aw_iconst dX4_beginThing_23 ?_
  refine aw_gald (r := some 39) dX4_beginThing_24 rfl (by constructor <;> omega) (by decide) rfl ?_
  refine aw_ild1 dX4_beginThing_25 ?_
  refine aw_ald0 dX4_beginThing_26 ?_
  refine aw_getf dX4_beginThing_27 hbf_X4_30 rfl rfl ?_
  refine aw_getf dX4_beginThing_30 hbf_X4_95 rfl rfl ?_
  refine aw_iconst dX4_beginThing_33 ?_
  refine aw_gald (r := some 10) dX4_beginThing_34 rfl (by constructor <;> omega) (by decide) rfl ?_
  refine aw_ild1 dX4_beginThing_35 ?_
  refine aw_iald dX4_beginThing_36 rfl (by constructor <;> omega) (by decide) ?_
  refine aw_iastw dX4_beginThing_37 (fun _ => rfl) rfl (by constructor <;> omega) (by decide) ?_
  refine aw_iconst dX4_beginThing_38 ?_
  refine aw_ipu2 dX4_beginThing_39 (by decide) ?_
  exact key 16 0 (by omega)
set_option maxRecDepth 20000 in
set_option maxHeartbeats 1000000 in
theorem c_begin {l : Launch} {G : hb_G} {F : hb_F} {na : Nat} (hS : ∀ k, k ≤ 40 → hb_rg (hb_bg G k)) (hT : ∀ k, k < 40 → ∀ j, j ≤ 16 → hb_rg (hb_by (hb_bg G k) k j)) : hb_M l yX4_begin cX4_begin 2 none 3 0 0 [hb_r 32] (hb_w G F na) (77 + na) (.inl none) (hb_w (hb_bg G 40) F na) (77 + na) := by
  refine hb_M_in rfl rfl (by decide) rfl (Nat.le_of_ble_eq_true rfl) ?_
  intro E z0 σ0
  have key : ∀ (n k : Nat), k + n = 40 → hb_W l RX4 cX4_begin 2 none "begin" [] E z0 (hb_rm 3 0 0) σ0 (77 + na) (.inl none) (hb_w (hb_bg G 40) F na) (77 + na) 0 0 30 [hb_r 32, hb_i (k : Int)] [] (hb_w (hb_bg G k) F na) (77 + na) := by
    intro n
    induction n with
    | zero =>
      intro k h0
      have e9 : k = 40 := by omega
      subst e9
      refine aw_ild1 dX4_begin_30 ?_
      refine aw_bipush dX4_begin_31 (by decide) ?_
      refine aw_icmp_ge (tg := 58) dX4_begin_33 (by decide) (by first | exact hG _ _ | assumption | (constructor <;> omega)) (by first | exact hG _ _ | assumption | (constructor <;> omega)) (fun c33 => ?_) (fun c33 => absurd c33 (by omega))
      exact aw_vret dX4_begin_58 rfl rfl rfl rfl (by decide) (by decide)
    | succ n ih =>
      intro k h0
      have hG := hS k (by omega)
      refine aw_ild1 dX4_begin_30 ?_
      refine aw_bipush dX4_begin_31 (by decide) ?_
      refine aw_icmp_ge (tg := 58) dX4_begin_33 (by decide) (by first | exact hG _ _ | assumption | (constructor <;> omega)) (by first | exact hG _ _ | assumption | (constructor <;> omega)) (fun c33 => absurd c33 (by omega)) (fun c33 => ?_)
      refine aw_ald0 dX4_begin_36 ?_
      refine aw_getf dX4_begin_37 hbf_X4_30 rfl rfl ?_
      refine aw_ild1 dX4_begin_40 ?_
      refine aw_V1v dX4_begin_41 (c_thingsHas (by constructor <;> omega) hG) rfl rfl hbY_X6_has hbm_X4_85 hbi_X6_has hbe_X6_X6_has (Nat.le_of_ble_eq_true rfl) ⟨by decide, by decide⟩ (by decide) (by decide) ?_
      refine aw_ifb_eq (tg := 52) dX4_begin_44 (by decide) (fun c44 => ?_) (fun c44 => ?_)
      · skip
        refine aw_iinc1 dX4_begin_52 (by decide) ?_
        refine aw_goto (tg := 30) dX4_begin_55 (by decide) ?_
        refine aw_G (G2 := hb_bg G (k + 1)) (by rw [hb_bg]; first | rw [if_pos (by assumption)] | rw [if_neg (by assumption)]) ?_
        exact ih (k + 1) (by omega)
      · skip
        refine aw_ald0 dX4_begin_47 ?_
        refine aw_ild1 dX4_begin_48 ?_
        refine aw_V1n dX4_begin_49 (c_beginThing (by omega) (hT k (by omega))) rfl rfl hbY_X4_beginThing hbm_X4_91 hbi_X4_beginThing hbe_X4_X4_beginThing (Nat.le_of_ble_eq_true rfl) ⟨by decide, by decide⟩ (by decide) (by decide) ?_
        refine aw_iinc1 dX4_begin_52 (by decide) ?_
        refine aw_goto (tg := 30) dX4_begin_55 (by decide) ?_
        refine aw_G (G2 := hb_bg G (k + 1)) (by rw [hb_bg]; first | rw [if_pos (by assumption)] | rw [if_neg (by assumption)]) ?_
        exact ih (k + 1) (by omega)
  refine aw_ald0 dX4_begin_0 ?_
  refine aw_iconst dX4_begin_1 ?_
  refine aw_putw dX4_begin_2 hbf_X4_53 hbS_X4 (fun C T n h9 => by cases h9; exact ⟨rfl, by decide +kernel, fun h8 => by cases h8⟩) rfl rfl rfl ?_
  refine aw_ald0 dX4_begin_5 ?_
  refine aw_getf dX4_begin_6 hbf_X4_46 rfl rfl ?_
  refine aw_V0n dX4_begin_9 (c_clear33 ) rfl rfl hbY_X7_clear hbm_X4_74 hbi_X7_clear hbe_X7_X7_clear (Nat.le_of_ble_eq_true rfl) ⟨by decide, by decide⟩ (by decide) (by decide) ?_
  refine aw_ald0 dX4_begin_12 ?_
  refine aw_getf dX4_begin_13 hbf_X4_19 rfl rfl ?_
  refine aw_iconst dX4_begin_16 ?_
  refine aw_S2n dX4_begin_17 (c_fill (fun _ => rfl) rfl (by decide)) hbY_J7_fill_53178 hbm_X4_79 hbs_J7_fill_53178 (Nat.le_of_ble_eq_true rfl) ⟨by decide, by decide⟩ (by decide) (by decide) ?_
  refine aw_ald0 dX4_begin_20 ?_
  refine aw_getf dX4_begin_21 hbf_X4_23 rfl rfl ?_
  refine aw_iconst dX4_begin_24 ?_
  refine aw_S2n dX4_begin_25 (c_fill (fun _ => rfl) rfl (by decide)) hbY_J7_fill_53178 hbm_X4_79 hbs_J7_fill_53178 (Nat.le_of_ble_eq_true rfl) ⟨by decide, by decide⟩ (by decide) (by decide) ?_
  refine aw_iconst dX4_begin_28 ?_
  refine aw_ipu1 dX4_begin_29 (by decide) ?_
  exact key 40 0 (by omega)
set_option maxRecDepth 20000 in
set_option maxHeartbeats 1000000 in
theorem c_fly {l : Launch} {G : hb_G} {F : hb_F} {na : Nat} {e : Nat} (he : e < na) (hS : ∀ k, k ≤ 40 → hb_rg (hb_fy G (77 + e) k)) (hP : ∀ k, k ≤ 40 → hb_tr (hb_fy G (77 + e) k 34)) : hb_M l yX4_fly cX4_fly 3 none 1 0 0 [hb_r 32, hb_r (77 + e)] (hb_w G F na) (77 + na) (.inl none) (hb_w (hb_fy G (77 + e) 40) F na) (77 + na) := by
  refine hb_M_in rfl rfl (by decide) rfl (Nat.le_of_ble_eq_true rfl) ?_
  intro E z0 σ0
  have key : ∀ (n k : Nat), k + n = 40 → hb_W l RX4 cX4_fly 3 none "fly" [] E z0 (hb_rm 1 0 0) σ0 (77 + na) (.inl none) (hb_w (hb_fy G (77 + e) 40) F na) (77 + na) 0 0 2 [hb_r 32, hb_r (77 + e), hb_i (k : Int)] [] (hb_w (hb_fy G (77 + e) k) F na) (77 + na) := by
    intro n
    induction n with
    | zero =>
      intro k h0
      have e9 : k = 40 := by omega
      subst e9
      refine aw_ild2 dX4_fly_2 ?_
      refine aw_bipush dX4_fly_3 (by decide) ?_
      refine aw_icmp_ge (tg := 59) dX4_fly_5 (by decide) (by first | exact hG _ _ | assumption | (constructor <;> omega)) (by first | exact hG _ _ | assumption | (constructor <;> omega)) (fun c5 => ?_) (fun c5 => absurd c5 (by omega))
      exact aw_vret dX4_fly_59 rfl rfl rfl rfl (by decide) (by decide)
    | succ n ih =>
      intro k h0
      have hG := hS k (by omega)
      have hp := hP k (by omega)
      have h8 := hb_tp_in hp 4 k (by omega)
      refine aw_ild2 dX4_fly_2 ?_
      refine aw_bipush dX4_fly_3 (by decide) ?_
      refine aw_icmp_ge (tg := 59) dX4_fly_5 (by decide) (by first | exact hG _ _ | (constructor <;> omega)) (by first | exact hG _ _ | (constructor <;> omega)) (fun c5 => absurd c5 (by omega)) (fun c5 => ?_)
      refine aw_ald0 dX4_fly_8 ?_
      refine aw_getf dX4_fly_9 hbf_X4_46 rfl rfl ?_
      refine aw_ild2 dX4_fly_12 ?_
      refine aw_V1v dX4_fly_13 (c_topOf33 (by first | assumption | omega | (constructor <;> omega) | exact hG _ _) hp hG) rfl rfl hbY_X7_topOf hbm_X4_129 hbi_X7_topOf hbe_X7_X7_topOf (Nat.le_of_ble_eq_true rfl) ⟨by decide, by decide⟩ (by decide) (by decide) ?_
      refine aw_ald1 dX4_fly_16 ?_
      refine aw_getf dX4_fly_17 hbf_X4_111 (hb_we he) rfl ?_
      refine aw_icmp_ne (tg := 53) dX4_fly_20 (by decide) (by first | exact hG _ _ | (constructor <;> omega)) (by first | exact hG _ _ | (constructor <;> omega)) (fun c20 => ?_) (fun c20 => ?_)
      · skip
        refine aw_iinc2 dX4_fly_53 (by decide) ?_
        refine aw_goto (tg := 2) dX4_fly_56 (by decide) ?_
        refine aw_G (G2 := hb_fy G (77 + e) (k + 1)) (by rw [hb_fy]; first | (rw [if_pos (by assumption)]; rfl) | rw [if_neg (by assumption)]) ?_
        exact ih (k + 1) (by omega)
      · skip
        refine aw_ald0 dX4_fly_23 ?_
        refine aw_getf dX4_fly_24 hbf_X4_11 rfl rfl ?_
        refine aw_iconst dX4_fly_27 ?_
        refine aw_gald (r := some 38) dX4_fly_28 rfl (by constructor <;> omega) (by decide) rfl ?_
        refine aw_ild2 dX4_fly_29 ?_
        refine aw_dup2 dX4_fly_30 rfl rfl ?_
        refine aw_iald dX4_fly_31 rfl (by constructor <;> omega) (by decide) ?_
        refine aw_ald1 dX4_fly_32 ?_
        refine aw_getf dX4_fly_33 hbf_X4_133 (hb_we he) rfl ?_
        refine aw_iadd dX4_fly_36 ?_
        refine aw_iastw dX4_fly_37 (fun _ => rfl) rfl (by constructor <;> omega) (by decide) ?_
        refine aw_ald0 dX4_fly_38 ?_
        refine aw_getf dX4_fly_39 hbf_X4_11 rfl rfl ?_
        refine aw_iconst dX4_fly_42 ?_
        refine aw_gald (r := some 39) dX4_fly_43 rfl (by constructor <;> omega) (by decide) rfl ?_
        refine aw_ild2 dX4_fly_44 ?_
        refine aw_dup2 dX4_fly_45 rfl rfl ?_
        refine aw_iald dX4_fly_46 rfl (by constructor <;> omega) (by decide) ?_
        refine aw_ald1 dX4_fly_47 ?_
        refine aw_getf dX4_fly_48 hbf_X4_136 (hb_we he) rfl ?_
        refine aw_top (c9 := hb_fy G (77 + e) k (77 + e) 7) (hb_qn (by decide)) ?_
        refine aw_iadd dX4_fly_51 ?_
        refine aw_iastw dX4_fly_52 (fun _ => rfl) rfl (by constructor <;> omega) (by decide) ?_
        refine aw_iinc2 dX4_fly_53 (by decide) ?_
        refine aw_goto (tg := 2) dX4_fly_56 (by decide) ?_
        refine aw_G (G2 := hb_fy G (77 + e) (k + 1)) (by rw [hb_fy]; first | (rw [if_pos (by assumption)]; rfl) | rw [if_neg (by assumption)]) ?_
        exact ih (k + 1) (by omega)
  refine aw_iconst dX4_fly_0 ?_
  refine aw_ipu2 dX4_fly_1 (by decide) ?_
  exact key 40 0 (by omega)
set_option maxRecDepth 20000 in
set_option maxHeartbeats 1000000 in
theorem c_doTask {l : Launch} {G : hb_G} {F : hb_F} {na : Nat} {e : Nat} (he : e < na) (ht : 0 ≤ G (77 + e) 1 ∧ G (77 + e) 1 < 40) (hk : 0 ≤ (G (77 + e) 4) ∧ (G (77 + e) 4) < 16) (hi : 0 ≤ (G (77 + e) 1 * 16 + G (77 + e) 4) ∧ (G (77 + e) 1 * 16 + G (77 + e) 4) < 640) (hpt : 0 ≤ G (77 + e) 2) (h0 : hb_rg G) (h1 : hb_rg (hb_du G (77 + e) (G (77 + e) 4) (G (77 + e) 1 * 16 + G (77 + e) 4) 0)) (h2 : hb_rg (hb_du (hb_du G (77 + e) (G (77 + e) 4) (G (77 + e) 1 * 16 + G (77 + e) 4) 0) (77 + e) (G (77 + e) 4) (G (77 + e) 1 * 16 + G (77 + e) 4) 1)) (b0 : hb_in (hb_cn G (G (77 + e) 1) 0 (G (77 + e) 2 / 100) - G 41 (G (77 + e) 1 * 16 + G (77 + e) 4)) ∧ hb_in (G 15 (G (77 + e) 4) * G 18 (G (77 + e) 4) / 1000) ∧ (0 ≤ G 15 (G (77 + e) 4) ∧ G 15 (G (77 + e) 4) ≤ 100000) ∧ (0 ≤ G 18 (G (77 + e) 4) ∧ G 18 (G (77 + e) 4) ≤ 500)) (b1 : hb_in (hb_cn (hb_du G (77 + e) (G (77 + e) 4) (G (77 + e) 1 * 16 + G (77 + e) 4) 0) ((hb_du G (77 + e) (G (77 + e) 4) (G (77 + e) 1 * 16 + G (77 + e) 4) 0) (77 + e) 1) 1 ((hb_du G (77 + e) (G (77 + e) 4) (G (77 + e) 1 * 16 + G (77 + e) 4) 0) (77 + e) 2 / 100) - (hb_du G (77 + e) (G (77 + e) 4) (G (77 + e) 1 * 16 + G (77 + e) 4) 0) 42 (G (77 + e) 1 * 16 + G (77 + e) 4)) ∧ hb_in ((hb_du G (77 + e) (G (77 + e) 4) (G (77 + e) 1 * 16 + G (77 + e) 4) 0) 16 (G (77 + e) 4) * (hb_du G (77 + e) (G (77 + e) 4) (G (77 + e) 1 * 16 + G (77 + e) 4) 0) 18 (G (77 + e) 4) / 1000) ∧ (0 ≤ (hb_du G (77 + e) (G (77 + e) 4) (G (77 + e) 1 * 16 + G (77 + e) 4) 0) 16 (G (77 + e) 4) ∧ (hb_du G (77 + e) (G (77 + e) 4) (G (77 + e) 1 * 16 + G (77 + e) 4) 0) 16 (G (77 + e) 4) ≤ 100000) ∧ (0 ≤ (hb_du G (77 + e) (G (77 + e) 4) (G (77 + e) 1 * 16 + G (77 + e) 4) 0) 18 (G (77 + e) 4) ∧ (hb_du G (77 + e) (G (77 + e) 4) (G (77 + e) 1 * 16 + G (77 + e) 4) 0) 18 (G (77 + e) 4) ≤ 500)) (b2 : hb_in (hb_cn (hb_du (hb_du G (77 + e) (G (77 + e) 4) (G (77 + e) 1 * 16 + G (77 + e) 4) 0) (77 + e) (G (77 + e) 4) (G (77 + e) 1 * 16 + G (77 + e) 4) 1) ((hb_du (hb_du G (77 + e) (G (77 + e) 4) (G (77 + e) 1 * 16 + G (77 + e) 4) 0) (77 + e) (G (77 + e) 4) (G (77 + e) 1 * 16 + G (77 + e) 4) 1) (77 + e) 1) 2 ((hb_du (hb_du G (77 + e) (G (77 + e) 4) (G (77 + e) 1 * 16 + G (77 + e) 4) 0) (77 + e) (G (77 + e) 4) (G (77 + e) 1 * 16 + G (77 + e) 4) 1) (77 + e) 2 / 100) - (hb_du (hb_du G (77 + e) (G (77 + e) 4) (G (77 + e) 1 * 16 + G (77 + e) 4) 0) (77 + e) (G (77 + e) 4) (G (77 + e) 1 * 16 + G (77 + e) 4) 1) 43 (G (77 + e) 1 * 16 + G (77 + e) 4)) ∧ hb_in ((hb_du (hb_du G (77 + e) (G (77 + e) 4) (G (77 + e) 1 * 16 + G (77 + e) 4) 0) (77 + e) (G (77 + e) 4) (G (77 + e) 1 * 16 + G (77 + e) 4) 1) 17 (G (77 + e) 4) * (hb_du (hb_du G (77 + e) (G (77 + e) 4) (G (77 + e) 1 * 16 + G (77 + e) 4) 0) (77 + e) (G (77 + e) 4) (G (77 + e) 1 * 16 + G (77 + e) 4) 1) 18 (G (77 + e) 4) / 1000) ∧ (0 ≤ (hb_du (hb_du G (77 + e) (G (77 + e) 4) (G (77 + e) 1 * 16 + G (77 + e) 4) 0) (77 + e) (G (77 + e) 4) (G (77 + e) 1 * 16 + G (77 + e) 4) 1) 17 (G (77 + e) 4) ∧ (hb_du (hb_du G (77 + e) (G (77 + e) 4) (G (77 + e) 1 * 16 + G (77 + e) 4) 0) (77 + e) (G (77 + e) 4) (G (77 + e) 1 * 16 + G (77 + e) 4) 1) 17 (G (77 + e) 4) ≤ 100000) ∧ (0 ≤ (hb_du (hb_du G (77 + e) (G (77 + e) 4) (G (77 + e) 1 * 16 + G (77 + e) 4) 0) (77 + e) (G (77 + e) 4) (G (77 + e) 1 * 16 + G (77 + e) 4) 1) 18 (G (77 + e) 4) ∧ (hb_du (hb_du G (77 + e) (G (77 + e) 4) (G (77 + e) 1 * 16 + G (77 + e) 4) 0) (77 + e) (G (77 + e) 4) (G (77 + e) 1 * 16 + G (77 + e) 4) 1) 18 (G (77 + e) 4) ≤ 500)) : hb_M l yX4_doTask cX4_doTask 9 none 1 0 0 [hb_r 32, hb_r (77 + e)] (hb_w G F na) (77 + na) (.inl none) (hb_w (hb_dt G (77 + e)) F na) (77 + na) := by
  refine hb_M_in rfl rfl (by decide) rfl (Nat.le_of_ble_eq_true rfl) ?_
  intro E z0 σ0
  have n1 : ∀ j, (hb_du G (77 + e) (G (77 + e) 4) (G (77 + e) 1 * 16 + G (77 + e) 4) 0) (77 + e) j = G (77 + e) j := fun j => hb_qn (by decide)
  have n2 : ∀ j, (hb_du (hb_du G (77 + e) (G (77 + e) 4) (G (77 + e) 1 * 16 + G (77 + e) 4) 0) (77 + e) (G (77 + e) 4) (G (77 + e) 1 * 16 + G (77 + e) 4) 1) (77 + e) j = G (77 + e) j := fun j => (hb_qn (by decide)).trans (n1 j)
  have n3 : ∀ j, (hb_du (hb_du (hb_du G (77 + e) (G (77 + e) 4) (G (77 + e) 1 * 16 + G (77 + e) 4) 0) (77 + e) (G (77 + e) 4) (G (77 + e) 1 * 16 + G (77 + e) 4) 1) (77 + e) (G (77 + e) 4) (G (77 + e) 1 * 16 + G (77 + e) 4) 2) (77 + e) j = G (77 + e) j := fun j => (hb_qn (by decide)).trans (n2 j)
  have k3 : hb_W l RX4 cX4_doTask 9 none "doTask" [] E z0 (hb_rm 1 0 0) σ0 (77 + na) (.inl none) (hb_w (hb_dt G (77 + e)) F na) (77 + na) 0 0 18 [hb_r 32, hb_r (77 + e), hb_i (G (77 + e) 4), hb_i (G (77 + e) 1 * 16 + G (77 + e) 4), hb_i 3] [] (hb_w (hb_du (hb_du (hb_du G (77 + e) (G (77 + e) 4) (G (77 + e) 1 * 16 + G (77 + e) 4) 0) (77 + e) (G (77 + e) 4) (G (77 + e) 1 * 16 + G (77 + e) 4) 1) (77 + e) (G (77 + e) 4) (G (77 + e) 1 * 16 + G (77 + e) 4) 2) F na) (77 + na) := by
    refine aw_ild4 dX4_doTask_18 ?_
    refine aw_iconst dX4_doTask_20 ?_
    refine aw_icmp_ge (tg := 135) dX4_doTask_21 (by decide) (by decide) (by decide) (fun c21 => ?_) (fun c21 => absurd c21 (by decide))
    refine aw_ald0 dX4_doTask_135 ?_
    refine aw_getf dX4_doTask_136 hbf_X4_19 rfl rfl ?_
    refine aw_ald1 dX4_doTask_139 ?_
    refine aw_getf dX4_doTask_140 hbf_X4_111 (hb_we he) rfl ?_
    refine aw_top (c9 := G (77 + e) 1) (n3 1) ?_
    refine aw_dup2 dX4_doTask_143 rfl rfl ?_
    refine aw_iald dX4_doTask_144 rfl (by constructor <;> omega) (by decide) ?_
    refine aw_iconst dX4_doTask_145 ?_
    refine aw_ild2 dX4_doTask_146 ?_
    refine aw_ishl dX4_doTask_147 ?_
    refine aw_iconst dX4_doTask_148 ?_
    refine aw_ixor dX4_doTask_149 ?_
    refine aw_iand dX4_doTask_150 ?_
    refine aw_iastw dX4_doTask_151 (fun _ => rfl) rfl (by constructor <;> omega) (by decide) ?_
    exact aw_vret dX4_doTask_152 rfl rfl rfl rfl (by decide) (by decide)
  have k2 : hb_W l RX4 cX4_doTask 9 none "doTask" [] E z0 (hb_rm 1 0 0) σ0 (77 + na) (.inl none) (hb_w (hb_dt G (77 + e)) F na) (77 + na) 0 0 18 [hb_r 32, hb_r (77 + e), hb_i (G (77 + e) 4), hb_i (G (77 + e) 1 * 16 + G (77 + e) 4), hb_i 2] [] (hb_w (hb_du (hb_du G (77 + e) (G (77 + e) 4) (G (77 + e) 1 * 16 + G (77 + e) 4) 0) (77 + e) (G (77 + e) 4) (G (77 + e) 1 * 16 + G (77 + e) 4) 1) F na) (77 + na) := by
    have hG := h2
    have hx := n2 1
    have hy := n2 2
    have hb := b2
    refine aw_ild4 dX4_doTask_18 ?_
    refine aw_iconst dX4_doTask_20 ?_
    refine aw_icmp_ge (tg := 135) dX4_doTask_21 (by decide) (by decide) (by decide) (fun c21 => absurd c21 (by decide)) (fun c21 => ?_)
    refine aw_ald0 dX4_doTask_24 ?_
    refine aw_ald1 dX4_doTask_25 ?_
    refine aw_getf dX4_doTask_26 hbf_X4_111 (hb_we he) rfl ?_
    refine aw_ild4 dX4_doTask_29 ?_
    refine aw_ald1 dX4_doTask_31 ?_
    refine aw_getf dX4_doTask_32 hbf_X4_65 (hb_we he) rfl ?_
    refine aw_bipush dX4_doTask_35 (by decide) ?_
    refine aw_idiv dX4_doTask_37 (hG _ _) (by decide) (by omega) (by decide) ?_
    refine aw_V3v dX4_doTask_38 (c_counterOf2 (by omega)) rfl rfl hbY_X4_counterOf hbm_X4_139 hbi_X4_counterOf hbe_X4_X4_counterOf (Nat.le_of_ble_eq_true rfl) ⟨by decide, by decide⟩ (by decide) (by decide) ?_
    refine aw_ipu5 dX4_doTask_41 (by decide) ?_
    refine aw_ild5 dX4_doTask_43 ?_
    refine aw_ald0 dX4_doTask_45 ?_
    refine aw_getf dX4_doTask_46 hbf_X4_16 rfl rfl ?_
    refine aw_ild4 dX4_doTask_49 ?_
    refine aw_gald (r := some 43) dX4_doTask_51 rfl (by decide) (by decide) rfl ?_
    refine aw_ild3 dX4_doTask_52 ?_
    refine aw_iald dX4_doTask_53 rfl hi (by decide) ?_
    refine aw_isub dX4_doTask_54 ?_
    refine aw_ipu6 dX4_doTask_55 (by decide) ?_
    refine aw_ild6 dX4_doTask_57 ?_
    refine aw_if_le (tg := 81) dX4_doTask_59 (by decide) hb.1 (fun c59 => ?_) (fun c59 => ?_)
    · skip
      refine aw_iconst dX4_doTask_81 ?_
      refine aw_ipu7 dX4_doTask_82 (by decide) ?_
      refine aw_ild7 dX4_doTask_84 ?_
      refine aw_if_eq (tg := 101) dX4_doTask_86 (by decide) (by decide) (fun c86 => ?_) (fun c86 => absurd c86 (by decide))
      refine aw_ild5 dX4_doTask_101 ?_
      refine aw_ipu8 dX4_doTask_103 (by decide) ?_
      refine aw_ald0 dX4_doTask_105 ?_
      refine aw_getf dX4_doTask_106 hbf_X4_16 rfl rfl ?_
      refine aw_ild4 dX4_doTask_109 ?_
      refine aw_gald (r := some 43) dX4_doTask_111 rfl (by decide) (by decide) rfl ?_
      refine aw_ild3 dX4_doTask_112 ?_
      refine aw_ild8 dX4_doTask_113 ?_
      refine aw_ald0 dX4_doTask_115 ?_
      refine aw_getf dX4_doTask_116 hbf_X4_34 rfl rfl ?_
      refine aw_getf dX4_doTask_119 hbf_X4_101 rfl rfl ?_
      refine aw_ild4 dX4_doTask_122 ?_
      refine aw_gald (r := some 17) dX4_doTask_124 rfl (by decide) (by decide) rfl ?_
      refine aw_ild2 dX4_doTask_125 ?_
      refine aw_iald dX4_doTask_126 rfl hk (by decide) ?_
      refine aw_iadd dX4_doTask_127 ?_
      refine aw_iastw dX4_doTask_128 (fun _ => rfl) rfl hi (by decide) ?_
      refine aw_iinc4 dX4_doTask_129 (by decide) ?_
      refine aw_goto (tg := 18) dX4_doTask_132 (by decide) ?_
      refine aw_dk_5_4 ?_
      refine aw_G (G2 := (hb_du (hb_du (hb_du G (77 + e) (G (77 + e) 4) (G (77 + e) 1 * 16 + G (77 + e) 4) 0) (77 + e) (G (77 + e) 4) (G (77 + e) 1 * 16 + G (77 + e) 4) 1) (77 + e) (G (77 + e) 4) (G (77 + e) 1 * 16 + G (77 + e) 4) 2)) (by first | exact (hb_du_t (u := 2) ⟨c59, c74⟩).symm | exact (hb_du_f (u := 2) (fun h9 => absurd h9.1 (Int.not_lt.mpr c59))).symm | exact (hb_du_f (u := 2) (fun h9 => absurd h9.2 (Int.not_le.mpr c74))).symm) ?_
      exact k3
    · skip
      refine aw_ild6 dX4_doTask_62 ?_
      refine aw_ald0 dX4_doTask_64 ?_
      refine aw_getf dX4_doTask_65 hbf_X4_34 rfl rfl ?_
      refine aw_ild2 dX4_doTask_68 ?_
      refine aw_ild4 dX4_doTask_69 ?_
      refine aw_V2v dX4_doTask_71 (c_graceOf2 hk hb.2.2.1 hb.2.2.2 hG) rfl rfl hbY_X5_graceOf hbm_X4_143 hbi_X5_graceOf hbe_X5_X5_graceOf (Nat.le_of_ble_eq_true rfl) ⟨by decide, by decide⟩ (by decide) (by decide) ?_
      refine aw_icmp_gt (tg := 81) dX4_doTask_74 (by decide) hb.1 hb.2.1 (fun c74 => ?_) (fun c74 => ?_)
      · skip
        refine aw_iconst dX4_doTask_81 ?_
        refine aw_ipu7 dX4_doTask_82 (by decide) ?_
        refine aw_ild7 dX4_doTask_84 ?_
        refine aw_if_eq (tg := 101) dX4_doTask_86 (by decide) (by decide) (fun c86 => ?_) (fun c86 => absurd c86 (by decide))
        refine aw_ild5 dX4_doTask_101 ?_
        refine aw_ipu8 dX4_doTask_103 (by decide) ?_
        refine aw_ald0 dX4_doTask_105 ?_
        refine aw_getf dX4_doTask_106 hbf_X4_16 rfl rfl ?_
        refine aw_ild4 dX4_doTask_109 ?_
        refine aw_gald (r := some 43) dX4_doTask_111 rfl (by decide) (by decide) rfl ?_
        refine aw_ild3 dX4_doTask_112 ?_
        refine aw_ild8 dX4_doTask_113 ?_
        refine aw_ald0 dX4_doTask_115 ?_
        refine aw_getf dX4_doTask_116 hbf_X4_34 rfl rfl ?_
        refine aw_getf dX4_doTask_119 hbf_X4_101 rfl rfl ?_
        refine aw_ild4 dX4_doTask_122 ?_
        refine aw_gald (r := some 17) dX4_doTask_124 rfl (by decide) (by decide) rfl ?_
        refine aw_ild2 dX4_doTask_125 ?_
        refine aw_iald dX4_doTask_126 rfl hk (by decide) ?_
        refine aw_iadd dX4_doTask_127 ?_
        refine aw_iastw dX4_doTask_128 (fun _ => rfl) rfl hi (by decide) ?_
        refine aw_iinc4 dX4_doTask_129 (by decide) ?_
        refine aw_goto (tg := 18) dX4_doTask_132 (by decide) ?_
        refine aw_dk_5_4 ?_
        refine aw_G (G2 := (hb_du (hb_du (hb_du G (77 + e) (G (77 + e) 4) (G (77 + e) 1 * 16 + G (77 + e) 4) 0) (77 + e) (G (77 + e) 4) (G (77 + e) 1 * 16 + G (77 + e) 4) 1) (77 + e) (G (77 + e) 4) (G (77 + e) 1 * 16 + G (77 + e) 4) 2)) (by first | exact (hb_du_t (u := 2) ⟨c59, c74⟩).symm | exact (hb_du_f (u := 2) (fun h9 => absurd h9.1 (Int.not_lt.mpr c59))).symm | exact (hb_du_f (u := 2) (fun h9 => absurd h9.2 (Int.not_le.mpr c74))).symm) ?_
        exact k3
      · skip
        refine aw_iconst dX4_doTask_77 ?_
        refine aw_goto (tg := 82) dX4_doTask_78 (by decide) ?_
        refine aw_ipu7 dX4_doTask_82 (by decide) ?_
        refine aw_ild7 dX4_doTask_84 ?_
        refine aw_if_eq (tg := 101) dX4_doTask_86 (by decide) (by decide) (fun c86 => absurd c86 (by decide)) (fun c86 => ?_)
        refine aw_ald0 dX4_doTask_89 ?_
        refine aw_getf dX4_doTask_90 hbf_X4_16 rfl rfl ?_
        refine aw_ild4 dX4_doTask_93 ?_
        refine aw_gald (r := some 43) dX4_doTask_95 rfl (by decide) (by decide) rfl ?_
        refine aw_ild3 dX4_doTask_96 ?_
        refine aw_iald dX4_doTask_97 rfl hi (by decide) ?_
        refine aw_goto (tg := 103) dX4_doTask_98 (by decide) ?_
        refine aw_ipu8 dX4_doTask_103 (by decide) ?_
        refine aw_ald0 dX4_doTask_105 ?_
        refine aw_getf dX4_doTask_106 hbf_X4_16 rfl rfl ?_
        refine aw_ild4 dX4_doTask_109 ?_
        refine aw_gald (r := some 43) dX4_doTask_111 rfl (by decide) (by decide) rfl ?_
        refine aw_ild3 dX4_doTask_112 ?_
        refine aw_ild8 dX4_doTask_113 ?_
        refine aw_ald0 dX4_doTask_115 ?_
        refine aw_getf dX4_doTask_116 hbf_X4_34 rfl rfl ?_
        refine aw_getf dX4_doTask_119 hbf_X4_101 rfl rfl ?_
        refine aw_ild4 dX4_doTask_122 ?_
        refine aw_gald (r := some 17) dX4_doTask_124 rfl (by decide) (by decide) rfl ?_
        refine aw_ild2 dX4_doTask_125 ?_
        refine aw_iald dX4_doTask_126 rfl hk (by decide) ?_
        refine aw_iadd dX4_doTask_127 ?_
        refine aw_iastw dX4_doTask_128 (fun _ => rfl) rfl hi (by decide) ?_
        refine aw_iinc4 dX4_doTask_129 (by decide) ?_
        refine aw_goto (tg := 18) dX4_doTask_132 (by decide) ?_
        refine aw_dk_5_4 ?_
        refine aw_G (G2 := (hb_du (hb_du (hb_du G (77 + e) (G (77 + e) 4) (G (77 + e) 1 * 16 + G (77 + e) 4) 0) (77 + e) (G (77 + e) 4) (G (77 + e) 1 * 16 + G (77 + e) 4) 1) (77 + e) (G (77 + e) 4) (G (77 + e) 1 * 16 + G (77 + e) 4) 2)) (by first | exact (hb_du_t (u := 2) ⟨c59, c74⟩).symm | exact (hb_du_f (u := 2) (fun h9 => absurd h9.1 (Int.not_lt.mpr c59))).symm | exact (hb_du_f (u := 2) (fun h9 => absurd h9.2 (Int.not_le.mpr c74))).symm) ?_
        exact k3
  have k1 : hb_W l RX4 cX4_doTask 9 none "doTask" [] E z0 (hb_rm 1 0 0) σ0 (77 + na) (.inl none) (hb_w (hb_dt G (77 + e)) F na) (77 + na) 0 0 18 [hb_r 32, hb_r (77 + e), hb_i (G (77 + e) 4), hb_i (G (77 + e) 1 * 16 + G (77 + e) 4), hb_i 1] [] (hb_w (hb_du G (77 + e) (G (77 + e) 4) (G (77 + e) 1 * 16 + G (77 + e) 4) 0) F na) (77 + na) := by
    have hG := h1
    have hx := n1 1
    have hy := n1 2
    have hb := b1
    refine aw_ild4 dX4_doTask_18 ?_
    refine aw_iconst dX4_doTask_20 ?_
    refine aw_icmp_ge (tg := 135) dX4_doTask_21 (by decide) (by decide) (by decide) (fun c21 => absurd c21 (by decide)) (fun c21 => ?_)
    refine aw_ald0 dX4_doTask_24 ?_
    refine aw_ald1 dX4_doTask_25 ?_
    refine aw_getf dX4_doTask_26 hbf_X4_111 (hb_we he) rfl ?_
    refine aw_ild4 dX4_doTask_29 ?_
    refine aw_ald1 dX4_doTask_31 ?_
    refine aw_getf dX4_doTask_32 hbf_X4_65 (hb_we he) rfl ?_
    refine aw_bipush dX4_doTask_35 (by decide) ?_
    refine aw_idiv dX4_doTask_37 (hG _ _) (by decide) (by omega) (by decide) ?_
    refine aw_V3v dX4_doTask_38 (c_counterOf1 (by omega)) rfl rfl hbY_X4_counterOf hbm_X4_139 hbi_X4_counterOf hbe_X4_X4_counterOf (Nat.le_of_ble_eq_true rfl) ⟨by decide, by decide⟩ (by decide) (by decide) ?_
    refine aw_ipu5 dX4_doTask_41 (by decide) ?_
    refine aw_ild5 dX4_doTask_43 ?_
    refine aw_ald0 dX4_doTask_45 ?_
    refine aw_getf dX4_doTask_46 hbf_X4_16 rfl rfl ?_
    refine aw_ild4 dX4_doTask_49 ?_
    refine aw_gald (r := some 42) dX4_doTask_51 rfl (by decide) (by decide) rfl ?_
    refine aw_ild3 dX4_doTask_52 ?_
    refine aw_iald dX4_doTask_53 rfl hi (by decide) ?_
    refine aw_isub dX4_doTask_54 ?_
    refine aw_ipu6 dX4_doTask_55 (by decide) ?_
    refine aw_ild6 dX4_doTask_57 ?_
    refine aw_if_le (tg := 81) dX4_doTask_59 (by decide) hb.1 (fun c59 => ?_) (fun c59 => ?_)
    · skip
      refine aw_iconst dX4_doTask_81 ?_
      refine aw_ipu7 dX4_doTask_82 (by decide) ?_
      refine aw_ild7 dX4_doTask_84 ?_
      refine aw_if_eq (tg := 101) dX4_doTask_86 (by decide) (by decide) (fun c86 => ?_) (fun c86 => absurd c86 (by decide))
      refine aw_ild5 dX4_doTask_101 ?_
      refine aw_ipu8 dX4_doTask_103 (by decide) ?_
      refine aw_ald0 dX4_doTask_105 ?_
      refine aw_getf dX4_doTask_106 hbf_X4_16 rfl rfl ?_
      refine aw_ild4 dX4_doTask_109 ?_
      refine aw_gald (r := some 42) dX4_doTask_111 rfl (by decide) (by decide) rfl ?_
      refine aw_ild3 dX4_doTask_112 ?_
      refine aw_ild8 dX4_doTask_113 ?_
      refine aw_ald0 dX4_doTask_115 ?_
      refine aw_getf dX4_doTask_116 hbf_X4_34 rfl rfl ?_
      refine aw_getf dX4_doTask_119 hbf_X4_101 rfl rfl ?_
      refine aw_ild4 dX4_doTask_122 ?_
      refine aw_gald (r := some 16) dX4_doTask_124 rfl (by decide) (by decide) rfl ?_
      refine aw_ild2 dX4_doTask_125 ?_
      refine aw_iald dX4_doTask_126 rfl hk (by decide) ?_
      refine aw_iadd dX4_doTask_127 ?_
      refine aw_iastw dX4_doTask_128 (fun _ => rfl) rfl hi (by decide) ?_
      refine aw_iinc4 dX4_doTask_129 (by decide) ?_
      refine aw_goto (tg := 18) dX4_doTask_132 (by decide) ?_
      refine aw_dk_5_4 ?_
      refine aw_G (G2 := (hb_du (hb_du G (77 + e) (G (77 + e) 4) (G (77 + e) 1 * 16 + G (77 + e) 4) 0) (77 + e) (G (77 + e) 4) (G (77 + e) 1 * 16 + G (77 + e) 4) 1)) (by first | exact (hb_du_t (u := 1) ⟨c59, c74⟩).symm | exact (hb_du_f (u := 1) (fun h9 => absurd h9.1 (Int.not_lt.mpr c59))).symm | exact (hb_du_f (u := 1) (fun h9 => absurd h9.2 (Int.not_le.mpr c74))).symm) ?_
      exact k2
    · skip
      refine aw_ild6 dX4_doTask_62 ?_
      refine aw_ald0 dX4_doTask_64 ?_
      refine aw_getf dX4_doTask_65 hbf_X4_34 rfl rfl ?_
      refine aw_ild2 dX4_doTask_68 ?_
      refine aw_ild4 dX4_doTask_69 ?_
      refine aw_V2v dX4_doTask_71 (c_graceOf1 hk hb.2.2.1 hb.2.2.2 hG) rfl rfl hbY_X5_graceOf hbm_X4_143 hbi_X5_graceOf hbe_X5_X5_graceOf (Nat.le_of_ble_eq_true rfl) ⟨by decide, by decide⟩ (by decide) (by decide) ?_
      refine aw_icmp_gt (tg := 81) dX4_doTask_74 (by decide) hb.1 hb.2.1 (fun c74 => ?_) (fun c74 => ?_)
      · skip
        refine aw_iconst dX4_doTask_81 ?_
        refine aw_ipu7 dX4_doTask_82 (by decide) ?_
        refine aw_ild7 dX4_doTask_84 ?_
        refine aw_if_eq (tg := 101) dX4_doTask_86 (by decide) (by decide) (fun c86 => ?_) (fun c86 => absurd c86 (by decide))
        refine aw_ild5 dX4_doTask_101 ?_
        refine aw_ipu8 dX4_doTask_103 (by decide) ?_
        refine aw_ald0 dX4_doTask_105 ?_
        refine aw_getf dX4_doTask_106 hbf_X4_16 rfl rfl ?_
        refine aw_ild4 dX4_doTask_109 ?_
        refine aw_gald (r := some 42) dX4_doTask_111 rfl (by decide) (by decide) rfl ?_
        refine aw_ild3 dX4_doTask_112 ?_
        refine aw_ild8 dX4_doTask_113 ?_
        refine aw_ald0 dX4_doTask_115 ?_
        refine aw_getf dX4_doTask_116 hbf_X4_34 rfl rfl ?_
        refine aw_getf dX4_doTask_119 hbf_X4_101 rfl rfl ?_
        refine aw_ild4 dX4_doTask_122 ?_
        refine aw_gald (r := some 16) dX4_doTask_124 rfl (by decide) (by decide) rfl ?_
        refine aw_ild2 dX4_doTask_125 ?_
        refine aw_iald dX4_doTask_126 rfl hk (by decide) ?_
        refine aw_iadd dX4_doTask_127 ?_
        refine aw_iastw dX4_doTask_128 (fun _ => rfl) rfl hi (by decide) ?_
        refine aw_iinc4 dX4_doTask_129 (by decide) ?_
        refine aw_goto (tg := 18) dX4_doTask_132 (by decide) ?_
        refine aw_dk_5_4 ?_
        refine aw_G (G2 := (hb_du (hb_du G (77 + e) (G (77 + e) 4) (G (77 + e) 1 * 16 + G (77 + e) 4) 0) (77 + e) (G (77 + e) 4) (G (77 + e) 1 * 16 + G (77 + e) 4) 1)) (by first | exact (hb_du_t (u := 1) ⟨c59, c74⟩).symm | exact (hb_du_f (u := 1) (fun h9 => absurd h9.1 (Int.not_lt.mpr c59))).symm | exact (hb_du_f (u := 1) (fun h9 => absurd h9.2 (Int.not_le.mpr c74))).symm) ?_
        exact k2
      · skip
        refine aw_iconst dX4_doTask_77 ?_
        refine aw_goto (tg := 82) dX4_doTask_78 (by decide) ?_
        refine aw_ipu7 dX4_doTask_82 (by decide) ?_
        refine aw_ild7 dX4_doTask_84 ?_
        refine aw_if_eq (tg := 101) dX4_doTask_86 (by decide) (by decide) (fun c86 => absurd c86 (by decide)) (fun c86 => ?_)
        refine aw_ald0 dX4_doTask_89 ?_
        refine aw_getf dX4_doTask_90 hbf_X4_16 rfl rfl ?_
        refine aw_ild4 dX4_doTask_93 ?_
        refine aw_gald (r := some 42) dX4_doTask_95 rfl (by decide) (by decide) rfl ?_
        refine aw_ild3 dX4_doTask_96 ?_
        refine aw_iald dX4_doTask_97 rfl hi (by decide) ?_
        refine aw_goto (tg := 103) dX4_doTask_98 (by decide) ?_
        refine aw_ipu8 dX4_doTask_103 (by decide) ?_
        refine aw_ald0 dX4_doTask_105 ?_
        refine aw_getf dX4_doTask_106 hbf_X4_16 rfl rfl ?_
        refine aw_ild4 dX4_doTask_109 ?_
        refine aw_gald (r := some 42) dX4_doTask_111 rfl (by decide) (by decide) rfl ?_
        refine aw_ild3 dX4_doTask_112 ?_
        refine aw_ild8 dX4_doTask_113 ?_
        refine aw_ald0 dX4_doTask_115 ?_
        refine aw_getf dX4_doTask_116 hbf_X4_34 rfl rfl ?_
        refine aw_getf dX4_doTask_119 hbf_X4_101 rfl rfl ?_
        refine aw_ild4 dX4_doTask_122 ?_
        refine aw_gald (r := some 16) dX4_doTask_124 rfl (by decide) (by decide) rfl ?_
        refine aw_ild2 dX4_doTask_125 ?_
        refine aw_iald dX4_doTask_126 rfl hk (by decide) ?_
        refine aw_iadd dX4_doTask_127 ?_
        refine aw_iastw dX4_doTask_128 (fun _ => rfl) rfl hi (by decide) ?_
        refine aw_iinc4 dX4_doTask_129 (by decide) ?_
        refine aw_goto (tg := 18) dX4_doTask_132 (by decide) ?_
        refine aw_dk_5_4 ?_
        refine aw_G (G2 := (hb_du (hb_du G (77 + e) (G (77 + e) 4) (G (77 + e) 1 * 16 + G (77 + e) 4) 0) (77 + e) (G (77 + e) 4) (G (77 + e) 1 * 16 + G (77 + e) 4) 1)) (by first | exact (hb_du_t (u := 1) ⟨c59, c74⟩).symm | exact (hb_du_f (u := 1) (fun h9 => absurd h9.1 (Int.not_lt.mpr c59))).symm | exact (hb_du_f (u := 1) (fun h9 => absurd h9.2 (Int.not_le.mpr c74))).symm) ?_
        exact k2
  have k0 : hb_W l RX4 cX4_doTask 9 none "doTask" [] E z0 (hb_rm 1 0 0) σ0 (77 + na) (.inl none) (hb_w (hb_dt G (77 + e)) F na) (77 + na) 0 0 18 [hb_r 32, hb_r (77 + e), hb_i (G (77 + e) 4), hb_i (G (77 + e) 1 * 16 + G (77 + e) 4), hb_i 0] [] (hb_w G F na) (77 + na) := by
    have hG := h0
    have hx : G (77 + e) 1 = G (77 + e) 1 := rfl
    have hy : G (77 + e) 2 = G (77 + e) 2 := rfl
    have hb := b0
    refine aw_ild4 dX4_doTask_18 ?_
    refine aw_iconst dX4_doTask_20 ?_
    refine aw_icmp_ge (tg := 135) dX4_doTask_21 (by decide) (by decide) (by decide) (fun c21 => absurd c21 (by decide)) (fun c21 => ?_)
    refine aw_ald0 dX4_doTask_24 ?_
    refine aw_ald1 dX4_doTask_25 ?_
    refine aw_getf dX4_doTask_26 hbf_X4_111 (hb_we he) rfl ?_
    refine aw_ild4 dX4_doTask_29 ?_
    refine aw_ald1 dX4_doTask_31 ?_
    refine aw_getf dX4_doTask_32 hbf_X4_65 (hb_we he) rfl ?_
    refine aw_bipush dX4_doTask_35 (by decide) ?_
    refine aw_idiv dX4_doTask_37 (hG _ _) (by decide) (by omega) (by decide) ?_
    refine aw_V3v dX4_doTask_38 (c_counterOf0 (by omega)) rfl rfl hbY_X4_counterOf hbm_X4_139 hbi_X4_counterOf hbe_X4_X4_counterOf (Nat.le_of_ble_eq_true rfl) ⟨by decide, by decide⟩ (by decide) (by decide) ?_
    refine aw_ipu5 dX4_doTask_41 (by decide) ?_
    refine aw_ild5 dX4_doTask_43 ?_
    refine aw_ald0 dX4_doTask_45 ?_
    refine aw_getf dX4_doTask_46 hbf_X4_16 rfl rfl ?_
    refine aw_ild4 dX4_doTask_49 ?_
    refine aw_gald (r := some 41) dX4_doTask_51 rfl (by decide) (by decide) rfl ?_
    refine aw_ild3 dX4_doTask_52 ?_
    refine aw_iald dX4_doTask_53 rfl hi (by decide) ?_
    refine aw_isub dX4_doTask_54 ?_
    refine aw_ipu6 dX4_doTask_55 (by decide) ?_
    refine aw_ild6 dX4_doTask_57 ?_
    refine aw_if_le (tg := 81) dX4_doTask_59 (by decide) hb.1 (fun c59 => ?_) (fun c59 => ?_)
    · skip
      refine aw_iconst dX4_doTask_81 ?_
      refine aw_ipu7 dX4_doTask_82 (by decide) ?_
      refine aw_ild7 dX4_doTask_84 ?_
      refine aw_if_eq (tg := 101) dX4_doTask_86 (by decide) (by decide) (fun c86 => ?_) (fun c86 => absurd c86 (by decide))
      refine aw_ild5 dX4_doTask_101 ?_
      refine aw_ipu8 dX4_doTask_103 (by decide) ?_
      refine aw_ald0 dX4_doTask_105 ?_
      refine aw_getf dX4_doTask_106 hbf_X4_16 rfl rfl ?_
      refine aw_ild4 dX4_doTask_109 ?_
      refine aw_gald (r := some 41) dX4_doTask_111 rfl (by decide) (by decide) rfl ?_
      refine aw_ild3 dX4_doTask_112 ?_
      refine aw_ild8 dX4_doTask_113 ?_
      refine aw_ald0 dX4_doTask_115 ?_
      refine aw_getf dX4_doTask_116 hbf_X4_34 rfl rfl ?_
      refine aw_getf dX4_doTask_119 hbf_X4_101 rfl rfl ?_
      refine aw_ild4 dX4_doTask_122 ?_
      refine aw_gald (r := some 15) dX4_doTask_124 rfl (by decide) (by decide) rfl ?_
      refine aw_ild2 dX4_doTask_125 ?_
      refine aw_iald dX4_doTask_126 rfl hk (by decide) ?_
      refine aw_iadd dX4_doTask_127 ?_
      refine aw_iastw dX4_doTask_128 (fun _ => rfl) rfl hi (by decide) ?_
      refine aw_iinc4 dX4_doTask_129 (by decide) ?_
      refine aw_goto (tg := 18) dX4_doTask_132 (by decide) ?_
      refine aw_dk_5_4 ?_
      refine aw_G (G2 := (hb_du G (77 + e) (G (77 + e) 4) (G (77 + e) 1 * 16 + G (77 + e) 4) 0)) (by first | exact (hb_du_t (u := 0) ⟨c59, c74⟩).symm | exact (hb_du_f (u := 0) (fun h9 => absurd h9.1 (Int.not_lt.mpr c59))).symm | exact (hb_du_f (u := 0) (fun h9 => absurd h9.2 (Int.not_le.mpr c74))).symm) ?_
      exact k1
    · skip
      refine aw_ild6 dX4_doTask_62 ?_
      refine aw_ald0 dX4_doTask_64 ?_
      refine aw_getf dX4_doTask_65 hbf_X4_34 rfl rfl ?_
      refine aw_ild2 dX4_doTask_68 ?_
      refine aw_ild4 dX4_doTask_69 ?_
      refine aw_V2v dX4_doTask_71 (c_graceOf0 hk hb.2.2.1 hb.2.2.2 hG) rfl rfl hbY_X5_graceOf hbm_X4_143 hbi_X5_graceOf hbe_X5_X5_graceOf (Nat.le_of_ble_eq_true rfl) ⟨by decide, by decide⟩ (by decide) (by decide) ?_
      refine aw_icmp_gt (tg := 81) dX4_doTask_74 (by decide) hb.1 hb.2.1 (fun c74 => ?_) (fun c74 => ?_)
      · skip
        refine aw_iconst dX4_doTask_81 ?_
        refine aw_ipu7 dX4_doTask_82 (by decide) ?_
        refine aw_ild7 dX4_doTask_84 ?_
        refine aw_if_eq (tg := 101) dX4_doTask_86 (by decide) (by decide) (fun c86 => ?_) (fun c86 => absurd c86 (by decide))
        refine aw_ild5 dX4_doTask_101 ?_
        refine aw_ipu8 dX4_doTask_103 (by decide) ?_
        refine aw_ald0 dX4_doTask_105 ?_
        refine aw_getf dX4_doTask_106 hbf_X4_16 rfl rfl ?_
        refine aw_ild4 dX4_doTask_109 ?_
        refine aw_gald (r := some 41) dX4_doTask_111 rfl (by decide) (by decide) rfl ?_
        refine aw_ild3 dX4_doTask_112 ?_
        refine aw_ild8 dX4_doTask_113 ?_
        refine aw_ald0 dX4_doTask_115 ?_
        refine aw_getf dX4_doTask_116 hbf_X4_34 rfl rfl ?_
        refine aw_getf dX4_doTask_119 hbf_X4_101 rfl rfl ?_
        refine aw_ild4 dX4_doTask_122 ?_
        refine aw_gald (r := some 15) dX4_doTask_124 rfl (by decide) (by decide) rfl ?_
        refine aw_ild2 dX4_doTask_125 ?_
        refine aw_iald dX4_doTask_126 rfl hk (by decide) ?_
        refine aw_iadd dX4_doTask_127 ?_
        refine aw_iastw dX4_doTask_128 (fun _ => rfl) rfl hi (by decide) ?_
        refine aw_iinc4 dX4_doTask_129 (by decide) ?_
        refine aw_goto (tg := 18) dX4_doTask_132 (by decide) ?_
        refine aw_dk_5_4 ?_
        refine aw_G (G2 := (hb_du G (77 + e) (G (77 + e) 4) (G (77 + e) 1 * 16 + G (77 + e) 4) 0)) (by first | exact (hb_du_t (u := 0) ⟨c59, c74⟩).symm | exact (hb_du_f (u := 0) (fun h9 => absurd h9.1 (Int.not_lt.mpr c59))).symm | exact (hb_du_f (u := 0) (fun h9 => absurd h9.2 (Int.not_le.mpr c74))).symm) ?_
        exact k1
      · skip
        refine aw_iconst dX4_doTask_77 ?_
        refine aw_goto (tg := 82) dX4_doTask_78 (by decide) ?_
        refine aw_ipu7 dX4_doTask_82 (by decide) ?_
        refine aw_ild7 dX4_doTask_84 ?_
        refine aw_if_eq (tg := 101) dX4_doTask_86 (by decide) (by decide) (fun c86 => absurd c86 (by decide)) (fun c86 => ?_)
        refine aw_ald0 dX4_doTask_89 ?_
        refine aw_getf dX4_doTask_90 hbf_X4_16 rfl rfl ?_
        refine aw_ild4 dX4_doTask_93 ?_
        refine aw_gald (r := some 41) dX4_doTask_95 rfl (by decide) (by decide) rfl ?_
        refine aw_ild3 dX4_doTask_96 ?_
        refine aw_iald dX4_doTask_97 rfl hi (by decide) ?_
        refine aw_goto (tg := 103) dX4_doTask_98 (by decide) ?_
        refine aw_ipu8 dX4_doTask_103 (by decide) ?_
        refine aw_ald0 dX4_doTask_105 ?_
        refine aw_getf dX4_doTask_106 hbf_X4_16 rfl rfl ?_
        refine aw_ild4 dX4_doTask_109 ?_
        refine aw_gald (r := some 41) dX4_doTask_111 rfl (by decide) (by decide) rfl ?_
        refine aw_ild3 dX4_doTask_112 ?_
        refine aw_ild8 dX4_doTask_113 ?_
        refine aw_ald0 dX4_doTask_115 ?_
        refine aw_getf dX4_doTask_116 hbf_X4_34 rfl rfl ?_
        refine aw_getf dX4_doTask_119 hbf_X4_101 rfl rfl ?_
        refine aw_ild4 dX4_doTask_122 ?_
        refine aw_gald (r := some 15) dX4_doTask_124 rfl (by decide) (by decide) rfl ?_
        refine aw_ild2 dX4_doTask_125 ?_
        refine aw_iald dX4_doTask_126 rfl hk (by decide) ?_
        refine aw_iadd dX4_doTask_127 ?_
        refine aw_iastw dX4_doTask_128 (fun _ => rfl) rfl hi (by decide) ?_
        refine aw_iinc4 dX4_doTask_129 (by decide) ?_
        refine aw_goto (tg := 18) dX4_doTask_132 (by decide) ?_
        refine aw_dk_5_4 ?_
        refine aw_G (G2 := (hb_du G (77 + e) (G (77 + e) 4) (G (77 + e) 1 * 16 + G (77 + e) 4) 0)) (by first | exact (hb_du_t (u := 0) ⟨c59, c74⟩).symm | exact (hb_du_f (u := 0) (fun h9 => absurd h9.1 (Int.not_lt.mpr c59))).symm | exact (hb_du_f (u := 0) (fun h9 => absurd h9.2 (Int.not_le.mpr c74))).symm) ?_
        exact k1
  refine aw_ald1 dX4_doTask_0 ?_
  refine aw_getf dX4_doTask_1 hbf_X4_126 (hb_we he) rfl ?_
  refine aw_ipu2 dX4_doTask_4 (by decide) ?_
  refine aw_ald1 dX4_doTask_5 ?_
  refine aw_getf dX4_doTask_6 hbf_X4_111 (hb_we he) rfl ?_
  refine aw_bipush dX4_doTask_9 (by decide) ?_
  refine aw_imul dX4_doTask_11 ?_
  refine aw_ild2 dX4_doTask_12 ?_
  refine aw_iadd dX4_doTask_13 ?_
  refine aw_ipu3 dX4_doTask_14 (by decide) ?_
  refine aw_iconst dX4_doTask_15 ?_
  refine aw_ipu4 dX4_doTask_16 (by decide) ?_
  exact k0
set_option maxRecDepth 20000 in
set_option maxHeartbeats 1000000 in
theorem c_postponeN {l : Launch} {G : hb_G} {F : hb_F} {na : Nat} {e : Nat} (he : e < na) (ht : 0 ≤ G (77 + e) 1 ∧ G (77 + e) 1 < 40) (hc : hb_an (G 44 (G (77 + e) 1)) (hb_sl 1 (G (77 + e) 4)) ≠ 0) (hG : hb_rg G) : hb_M l yX4_postpone cX4_postpone 5 none 1 0 0 [hb_r 32, hb_r (77 + e)] (hb_w G F na) (77 + na) (.inl none) (hb_w G F na) (77 + na) := by
  refine hb_M_in rfl rfl (by decide) rfl (Nat.le_of_ble_eq_true rfl) ?_
  intro E z0 σ0
  refine aw_ald1 dX4_postpone_0 ?_
  refine aw_getf dX4_postpone_1 hbf_X4_126 (hb_we he) rfl ?_
  refine aw_ipu2 dX4_postpone_4 (by decide) ?_
  refine aw_iconst dX4_postpone_5 ?_
  refine aw_ild2 dX4_postpone_6 ?_
  refine aw_ishl dX4_postpone_7 ?_
  refine aw_ipu3 dX4_postpone_8 (by decide) ?_
  refine aw_ald0 dX4_postpone_9 ?_
  refine aw_getf dX4_postpone_10 hbf_X4_19 rfl rfl ?_
  refine aw_ald1 dX4_postpone_13 ?_
  refine aw_getf dX4_postpone_14 hbf_X4_111 (hb_we he) rfl ?_
  refine aw_iald dX4_postpone_17 rfl (by constructor <;> omega) (by decide) ?_
  refine aw_ild3 dX4_postpone_18 ?_
  refine aw_iand dX4_postpone_19 ?_
  refine aw_if_eq (tg := 24) dX4_postpone_20 (by decide) (hb_an_in _ _) (fun c20 => absurd c20 (by exact fun h8 => hc h8)) (fun c20 => ?_)
  exact aw_vret dX4_postpone_23 rfl rfl rfl rfl (by decide) (by decide)
set_option maxRecDepth 20000 in
set_option maxHeartbeats 1000000 in
theorem c_postponeY {l : Launch} {G : hb_G} {F : hb_F} {na : Nat} {e : Nat} (he : e < na) (ht : 0 ≤ G (77 + e) 1 ∧ G (77 + e) 1 < 40) (hk : 0 ≤ (G (77 + e) 4) ∧ (G (77 + e) 4) < 16) (hc : hb_an (G 44 (G (77 + e) 1)) (hb_sl 1 (G (77 + e) 4)) = 0) (hG : hb_rg G) (h0 : hb_rg (hb_p0 G (77 + e))) (h1 : hb_rg (hb_pu (hb_p0 G (77 + e)) (77 + e) (G (77 + e) 4) 0)) (h2 : hb_rg (hb_pu (hb_pu (hb_p0 G (77 + e)) (77 + e) (G (77 + e) 4) 0) (77 + e) (G (77 + e) 4) 1)) : hb_M l yX4_postpone cX4_postpone 5 none 1 0 0 [hb_r 32, hb_r (77 + e)] (hb_w G F na) (77 + na) (.inl none) (hb_w (hb_pp G (77 + e)) F na) (77 + na) := by
  refine hb_M_in rfl rfl (by decide) rfl (Nat.le_of_ble_eq_true rfl) ?_
  intro E z0 σ0
  have n0 : ∀ j, (hb_p0 G (77 + e)) (77 + e) j = G (77 + e) j := fun j => hb_qn (by decide)
  have n1 : ∀ j, (hb_pu (hb_p0 G (77 + e)) (77 + e) (G (77 + e) 4) 0) (77 + e) j = G (77 + e) j := fun j => (hb_qn (by decide)).trans (n0 j)
  have n2 : ∀ j, (hb_pu (hb_pu (hb_p0 G (77 + e)) (77 + e) (G (77 + e) 4) 0) (77 + e) (G (77 + e) 4) 1) (77 + e) j = G (77 + e) j := fun j => (hb_qn (by decide)).trans (n1 j)
  have n3 : ∀ j, (hb_pu (hb_pu (hb_pu (hb_p0 G (77 + e)) (77 + e) (G (77 + e) 4) 0) (77 + e) (G (77 + e) 4) 1) (77 + e) (G (77 + e) 4) 2) (77 + e) j = G (77 + e) j := fun j => (hb_qn (by decide)).trans (n2 j)
  have k3 : hb_W l RX4 cX4_postpone 5 none "postpone" [] E z0 (hb_rm 1 0 0) σ0 (77 + na) (.inl none) (hb_w (hb_pp G (77 + e)) F na) (77 + na) 0 0 40 [hb_r 32, hb_r (77 + e), hb_i (G (77 + e) 4), hb_i (hb_sl 1 (G (77 + e) 4)), hb_i 3] [] (hb_w (hb_pu (hb_pu (hb_pu (hb_p0 G (77 + e)) (77 + e) (G (77 + e) 4) 0) (77 + e) (G (77 + e) 4) 1) (77 + e) (G (77 + e) 4) 2) F na) (77 + na) := by
    refine aw_ild4 dX4_postpone_40 ?_
    refine aw_iconst dX4_postpone_42 ?_
    refine aw_icmp_ge (tg := 78) dX4_postpone_43 (by decide) (by decide) (by decide) (fun c43 => ?_) (fun c43 => absurd c43 (by decide))
    exact aw_vret dX4_postpone_78 rfl rfl rfl rfl (by decide) (by decide)
  have k2 : hb_W l RX4 cX4_postpone 5 none "postpone" [] E z0 (hb_rm 1 0 0) σ0 (77 + na) (.inl none) (hb_w (hb_pp G (77 + e)) F na) (77 + na) 0 0 40 [hb_r 32, hb_r (77 + e), hb_i (G (77 + e) 4), hb_i (hb_sl 1 (G (77 + e) 4)), hb_i 2] [] (hb_w (hb_pu (hb_pu (hb_p0 G (77 + e)) (77 + e) (G (77 + e) 4) 0) (77 + e) (G (77 + e) 4) 1) F na) (77 + na) := by
    have hG := h2
    have hx := n2 1
    refine aw_ild4 dX4_postpone_40 ?_
    refine aw_iconst dX4_postpone_42 ?_
    refine aw_icmp_ge (tg := 78) dX4_postpone_43 (by decide) (by decide) (by decide) (fun c43 => absurd c43 (by decide)) (fun c43 => ?_)
    refine aw_ald0 dX4_postpone_46 ?_
    refine aw_getf dX4_postpone_47 hbf_X4_16 rfl rfl ?_
    refine aw_ild4 dX4_postpone_50 ?_
    refine aw_gald (r := some 43) dX4_postpone_52 rfl (by decide) (by decide) rfl ?_
    refine aw_ald1 dX4_postpone_53 ?_
    refine aw_getf dX4_postpone_54 hbf_X4_111 (hb_we he) rfl ?_
    refine aw_bipush dX4_postpone_57 (by decide) ?_
    refine aw_imul dX4_postpone_59 ?_
    refine aw_ild2 dX4_postpone_60 ?_
    refine aw_iadd dX4_postpone_61 ?_
    refine aw_dup2 dX4_postpone_62 rfl rfl ?_
    refine aw_iald dX4_postpone_63 rfl (by constructor <;> omega) (by decide) ?_
    refine aw_ald1 dX4_postpone_64 ?_
    refine aw_ild4 dX4_postpone_65 ?_
    refine aw_V1v dX4_postpone_67 (c_amountOf2 he hG) (hb_we he) rfl hbY_X1_amountOf hbm_X4_147 hbi_X1_amountOf hbe_X1_X1_amountOf (Nat.le_of_ble_eq_true rfl) ⟨by decide, by decide⟩ (by decide) (by decide) ?_
    refine aw_iadd dX4_postpone_70 ?_
    refine aw_iastw dX4_postpone_71 (fun _ => rfl) rfl (by constructor <;> omega) (by decide) ?_
    refine aw_iinc4 dX4_postpone_72 (by decide) ?_
    refine aw_goto (tg := 40) dX4_postpone_75 (by decide) ?_
    exact k3
  have k1 : hb_W l RX4 cX4_postpone 5 none "postpone" [] E z0 (hb_rm 1 0 0) σ0 (77 + na) (.inl none) (hb_w (hb_pp G (77 + e)) F na) (77 + na) 0 0 40 [hb_r 32, hb_r (77 + e), hb_i (G (77 + e) 4), hb_i (hb_sl 1 (G (77 + e) 4)), hb_i 1] [] (hb_w (hb_pu (hb_p0 G (77 + e)) (77 + e) (G (77 + e) 4) 0) F na) (77 + na) := by
    have hG := h1
    have hx := n1 1
    refine aw_ild4 dX4_postpone_40 ?_
    refine aw_iconst dX4_postpone_42 ?_
    refine aw_icmp_ge (tg := 78) dX4_postpone_43 (by decide) (by decide) (by decide) (fun c43 => absurd c43 (by decide)) (fun c43 => ?_)
    refine aw_ald0 dX4_postpone_46 ?_
    refine aw_getf dX4_postpone_47 hbf_X4_16 rfl rfl ?_
    refine aw_ild4 dX4_postpone_50 ?_
    refine aw_gald (r := some 42) dX4_postpone_52 rfl (by decide) (by decide) rfl ?_
    refine aw_ald1 dX4_postpone_53 ?_
    refine aw_getf dX4_postpone_54 hbf_X4_111 (hb_we he) rfl ?_
    refine aw_bipush dX4_postpone_57 (by decide) ?_
    refine aw_imul dX4_postpone_59 ?_
    refine aw_ild2 dX4_postpone_60 ?_
    refine aw_iadd dX4_postpone_61 ?_
    refine aw_dup2 dX4_postpone_62 rfl rfl ?_
    refine aw_iald dX4_postpone_63 rfl (by constructor <;> omega) (by decide) ?_
    refine aw_ald1 dX4_postpone_64 ?_
    refine aw_ild4 dX4_postpone_65 ?_
    refine aw_V1v dX4_postpone_67 (c_amountOf1 he hG) (hb_we he) rfl hbY_X1_amountOf hbm_X4_147 hbi_X1_amountOf hbe_X1_X1_amountOf (Nat.le_of_ble_eq_true rfl) ⟨by decide, by decide⟩ (by decide) (by decide) ?_
    refine aw_iadd dX4_postpone_70 ?_
    refine aw_iastw dX4_postpone_71 (fun _ => rfl) rfl (by constructor <;> omega) (by decide) ?_
    refine aw_iinc4 dX4_postpone_72 (by decide) ?_
    refine aw_goto (tg := 40) dX4_postpone_75 (by decide) ?_
    exact k2
  have k0 : hb_W l RX4 cX4_postpone 5 none "postpone" [] E z0 (hb_rm 1 0 0) σ0 (77 + na) (.inl none) (hb_w (hb_pp G (77 + e)) F na) (77 + na) 0 0 40 [hb_r 32, hb_r (77 + e), hb_i (G (77 + e) 4), hb_i (hb_sl 1 (G (77 + e) 4)), hb_i 0] [] (hb_w (hb_p0 G (77 + e)) F na) (77 + na) := by
    have hG := h0
    have hx := n0 1
    refine aw_ild4 dX4_postpone_40 ?_
    refine aw_iconst dX4_postpone_42 ?_
    refine aw_icmp_ge (tg := 78) dX4_postpone_43 (by decide) (by decide) (by decide) (fun c43 => absurd c43 (by decide)) (fun c43 => ?_)
    refine aw_ald0 dX4_postpone_46 ?_
    refine aw_getf dX4_postpone_47 hbf_X4_16 rfl rfl ?_
    refine aw_ild4 dX4_postpone_50 ?_
    refine aw_gald (r := some 41) dX4_postpone_52 rfl (by decide) (by decide) rfl ?_
    refine aw_ald1 dX4_postpone_53 ?_
    refine aw_getf dX4_postpone_54 hbf_X4_111 (hb_we he) rfl ?_
    refine aw_bipush dX4_postpone_57 (by decide) ?_
    refine aw_imul dX4_postpone_59 ?_
    refine aw_ild2 dX4_postpone_60 ?_
    refine aw_iadd dX4_postpone_61 ?_
    refine aw_dup2 dX4_postpone_62 rfl rfl ?_
    refine aw_iald dX4_postpone_63 rfl (by constructor <;> omega) (by decide) ?_
    refine aw_ald1 dX4_postpone_64 ?_
    refine aw_ild4 dX4_postpone_65 ?_
    refine aw_V1v dX4_postpone_67 (c_amountOf0 he hG) (hb_we he) rfl hbY_X1_amountOf hbm_X4_147 hbi_X1_amountOf hbe_X1_X1_amountOf (Nat.le_of_ble_eq_true rfl) ⟨by decide, by decide⟩ (by decide) (by decide) ?_
    refine aw_iadd dX4_postpone_70 ?_
    refine aw_iastw dX4_postpone_71 (fun _ => rfl) rfl (by constructor <;> omega) (by decide) ?_
    refine aw_iinc4 dX4_postpone_72 (by decide) ?_
    refine aw_goto (tg := 40) dX4_postpone_75 (by decide) ?_
    exact k1
  refine aw_ald1 dX4_postpone_0 ?_
  refine aw_getf dX4_postpone_1 hbf_X4_126 (hb_we he) rfl ?_
  refine aw_ipu2 dX4_postpone_4 (by decide) ?_
  refine aw_iconst dX4_postpone_5 ?_
  refine aw_ild2 dX4_postpone_6 ?_
  refine aw_ishl dX4_postpone_7 ?_
  refine aw_ipu3 dX4_postpone_8 (by decide) ?_
  refine aw_ald0 dX4_postpone_9 ?_
  refine aw_getf dX4_postpone_10 hbf_X4_19 rfl rfl ?_
  refine aw_ald1 dX4_postpone_13 ?_
  refine aw_getf dX4_postpone_14 hbf_X4_111 (hb_we he) rfl ?_
  refine aw_iald dX4_postpone_17 rfl (by constructor <;> omega) (by decide) ?_
  refine aw_ild3 dX4_postpone_18 ?_
  refine aw_iand dX4_postpone_19 ?_
  refine aw_if_eq (tg := 24) dX4_postpone_20 (by decide) (hb_an_in _ _) (fun c20 => ?_) (fun c20 => absurd c20 (by exact fun h8 => h8 hc))
  refine aw_ald0 dX4_postpone_24 ?_
  refine aw_getf dX4_postpone_25 hbf_X4_19 rfl rfl ?_
  refine aw_ald1 dX4_postpone_28 ?_
  refine aw_getf dX4_postpone_29 hbf_X4_111 (hb_we he) rfl ?_
  refine aw_dup2 dX4_postpone_32 rfl rfl ?_
  refine aw_iald dX4_postpone_33 rfl (by constructor <;> omega) (by decide) ?_
  refine aw_ild3 dX4_postpone_34 ?_
  refine aw_ior dX4_postpone_35 ?_
  refine aw_iastw dX4_postpone_36 (fun _ => rfl) rfl (by constructor <;> omega) (by decide) ?_
  refine aw_iconst dX4_postpone_37 ?_
  refine aw_ipu4 dX4_postpone_38 (by decide) ?_
  exact k0
