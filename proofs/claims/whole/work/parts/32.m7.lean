set_option maxRecDepth 20000 in
set_option maxHeartbeats 1000000 in
theorem c_mOpenN {l : Launch} {G : hb_G} {F : hb_F} {na : Nat} {m d i : Int} (im : hb_in m) (id : hb_in d) (ii : hb_in i) (hP : ¬ (hb_jm (hb_u2 G 47 0 0) m ∧ (0 ≤ d ∧ d ≤ 30000))) (hG : hb_rg G) : hb_M l yX9_open cX9_open 9 (some .int) 4 0 0 [hb_r 47, hb_i m, hb_i d, hb_i i] (hb_w G F na) (77 + na) (.inl (some (hb_i (-1)))) (hb_w (hb_u2 G 47 0 0) F na) (77 + na) := by
  refine hb_M_in rfl rfl (by decide) rfl (Nat.le_of_ble_eq_true rfl) ?_
  intro E z0 σ0
  have hG0 := hG
  have hG : hb_rg (hb_u2 G 47 0 0) := hG0.u2 (by decide)
  refine aw_ald0 dX9_open_0 ?_
  refine aw_iconst dX9_open_1 ?_
  refine aw_putz (jz := 0) dX9_open_2 hbf_X9_95 hbS_X9 (fun C T n h9 => by cases h9; exact ⟨rfl, by decide +kernel, fun h8 => by cases h8⟩) rfl rfl rfl rfl ?_
  refine aw_ald0 dX9_open_5 ?_
  refine aw_ild1 dX9_open_6 ?_
  refine aw_V1v dX9_open_7 (c_mIsMachine (by first | assumption | (constructor <;> omega) | exact hG _ _) hG) rfl rfl hbY_X9_isMachine hbm_X9_153 hbi_X9_isMachine hbe_X9_X9_isMachine (Nat.le_of_ble_eq_true rfl) ⟨by decide, by decide⟩ (by decide) (by decide) ?_
  refine aw_ifb_eq (tg := 20) dX9_open_10 (by decide) (fun c10 => ?_) (fun c10 => ?_)
  · skip
    refine aw_iconst dX9_open_20 ?_
    exact aw_iret dX9_open_21 rfl (by rfl) rfl rfl (by decide) (by decide)
  · skip
    refine aw_ild2 dX9_open_13 ?_
    refine aw_S1v dX9_open_14 (c_mIsDay (by first | assumption | (constructor <;> omega) | exact hG _ _)) hbY_X9_isDay hbm_X9_115 hbs_X9_isDay (Nat.le_of_ble_eq_true rfl) ⟨by decide, by decide⟩ (by decide) (by decide) ?_
    refine aw_ifb_ne (tg := 22) dX9_open_17 (by decide) (fun c17 => ?_) (fun c17 => ?_)
    · skip
      exact absurd ⟨by assumption, by assumption⟩ hP
    · skip
      refine aw_iconst dX9_open_20 ?_
      exact aw_iret dX9_open_21 rfl (by rfl) rfl rfl (by decide) (by decide)
/-- asked and overdue in a machine's tree, by the reference -/
def hb_oj (G : hb_G) (m pt : Int) (n : Nat) (OV : Int → Int → Prop) (j : Nat) : Prop := hb_jr G m ((j / 16 : Nat) : Int) ∧ G 55 ((j % 16 : Nat) : Int) ≠ -1 ∧ hb_jq G ((j / 16 : Nat) : Int) ((j % 16 : Nat) : Int) pt n ∧ OV ((j / 16 : Nat) : Int) ((j % 16 : Nat) : Int)
theorem hb_oj_i {G : hb_G} {m pt : Int} {n : Nat} {OV : Int → Int → Prop} {t k : Nat} (hk : k < 16) : hb_oj G m pt n OV (t * 16 + k) ↔ hb_jr G m t ∧ G 55 k ≠ -1 ∧ hb_jq G t k pt n ∧ OV t k := by
  unfold hb_oj
  rw [show (t * 16 + k) / 16 = t by omega, show (t * 16 + k) % 16 = k by omega]
set_option maxRecDepth 20000 in
set_option maxHeartbeats 1000000 in
theorem c_mOpenY {l : Launch} {G : hb_G} {F : hb_F} {na : Nat} {m d i : Int} {n : Nat} {OV : Int → Int → Prop} (im : hb_in m) (id : hb_in d) (ii : hb_in i) (hP : hb_jm (hb_u2 G 47 0 0) m ∧ (0 ≤ d ∧ d ≤ 30000)) {G1 : hb_G} (hA : hb_M l yX9_arrange cX9_arrange 3 (some .boolean) 3 0 0 [hb_r 47, hb_i (100 * d + 99)] (hb_w (hb_u2 G 47 0 0) F na) (77 + na) (.inl (some (hb_i (1)))) (hb_w G1 F na) (77 + na)) (hG1 : hb_rg G1) (hp : hb_tr (G1 71)) (hen : ∀ t, 0 ≤ t ∧ t < 40 → hb_en (G1 71) 4 t)  (hn : G1 47 17 = n) (hn2 : n ≤ 200) (hO : ∀ t k, 0 ≤ t ∧ t < 40 → 0 ≤ k ∧ k < 16 → G1 51 t ≠ -1 → G1 55 k ≠ -1 → hb_M l yX9_isOverdue cX9_isOverdue 5 (some .boolean) 2 0 0 [hb_r 47, hb_i t, hb_i k, hb_i (100 * d + 99)] (hb_w G1 F na) (77 + na) (.inl (some (hb_i (hb_b (OV t k))))) (hb_w G1 F na) (77 + na))  (hG : hb_rg G) : hb_M l yX9_open cX9_open 9 (some .int) 4 0 0 [hb_r 47, hb_i m, hb_i d, hb_i i] (hb_w G F na) (77 + na) (.inl (some (hb_i (hb_fd (hb_oj G1 m (100 * d + 99) n OV) 640 0 i)))) (hb_w G1 F na) (77 + na) := by
  refine hb_M_in rfl rfl (by decide) rfl (Nat.le_of_ble_eq_true rfl) ?_
  intro E z0 σ0
  have hG0 := hG
  have hG : hb_rg (hb_u2 G 47 0 0) := hG0.u2 (by decide)
  have q3 : 0 ≤ d ∧ d ≤ 30000 := hP.2
  have ip : hb_in (100 * d + 99) := by constructor <;> omega
  have key : ∀ (r t : Nat) (b : Int), t + r = 40 → 0 ≤ b → b ≤ 16 * t → hb_fd (hb_oj G1 m (100 * d + 99) n OV) (640 - t * 16) (t * 16) (i - b) = hb_fd (hb_oj G1 m (100 * d + 99) n OV) 640 0 i → hb_W l RX9 cX9_open 9 (some .int) "open" [] E z0 (hb_rm 4 0 0) σ0 (77 + na) (.inl (some (hb_i (hb_fd (hb_oj G1 m (100 * d + 99) n OV) 640 0 i)))) (hb_w G1 F na) (77 + na) 0 0 45 [hb_r 47, hb_i m, hb_i d, hb_i i, hb_i (100 * d + 99), hb_i 1, hb_i b, hb_i (t : Int)] [] (hb_w G1 F na) (77 + na) := by
    intro r
    induction r with
    | zero =>
      intro t b h0 h1 h2 h3
      have e9 : t = 40 := by omega
      subst e9
      refine aw_ild7 dX9_open_45 ?_
      refine aw_bipush dX9_open_47 (by decide) ?_
      refine aw_icmp_ge (tg := 142) dX9_open_49 (by decide) (by first | exact hG _ _ | assumption | (constructor <;> omega)) (by first | exact hG _ _ | assumption | (constructor <;> omega)) (fun c49 => ?_) (fun c49 => absurd c49 (by omega))
      refine aw_iconst dX9_open_142 ?_
      exact aw_iret dX9_open_143 rfl (by rw [← h3]; rfl) rfl rfl (by decide) (by decide)
    | succ r ih =>
      intro t b h0 h1 h2 h3
      have hG := hG1
      have key2 : ∀ (q k : Nat) (b : Int), k + q = 16 → 0 ≤ b → b ≤ 16 * t + k → hb_fd (hb_oj G1 m (100 * d + 99) n OV) (640 - (t * 16 + k)) (t * 16 + k) (i - b) = hb_fd (hb_oj G1 m (100 * d + 99) n OV) 640 0 i → hb_W l RX9 cX9_open 9 (some .int) "open" [] E z0 (hb_rm 4 0 0) σ0 (77 + na) (.inl (some (hb_i (hb_fd (hb_oj G1 m (100 * d + 99) n OV) 640 0 i)))) (hb_w G1 F na) (77 + na) 0 0 55 [hb_r 47, hb_i m, hb_i d, hb_i i, hb_i (100 * d + 99), hb_i 1, hb_i b, hb_i (t : Int), hb_i (k : Int)] [] (hb_w G1 F na) (77 + na) := by
        intro q
        induction q with
        | zero =>
          intro k b g0 g1 g2 g3
          have e9 : k = 16 := by omega
          subst e9
          refine aw_ild8 dX9_open_55 ?_
          refine aw_bipush dX9_open_57 (by decide) ?_
          refine aw_icmp_ge (tg := 136) dX9_open_59 (by decide) (by first | exact hG _ _ | assumption | (constructor <;> omega)) (by first | exact hG _ _ | assumption | (constructor <;> omega)) (fun c59 => ?_) (fun c59 => absurd c59 (by omega))
          refine aw_iinc7 dX9_open_136 (by decide) ?_
          refine aw_goto (tg := 45) dX9_open_139 (by decide) ?_
          refine aw_dk_8_1 ?_
          exact ih (t + 1) b (by omega) g1 (by omega) (by rw [← g3, show (t + 1) * 16 = t * 16 + 16 by omega])
        | succ q ih2 =>
          intro k b g0 g1 g2 g3
          have e8 : 640 - (t * 16 + k) = (640 - (t * 16 + (k + 1))) + 1 := by omega
          refine aw_ild8 dX9_open_55 ?_
          refine aw_bipush dX9_open_57 (by decide) ?_
          refine aw_icmp_ge (tg := 136) dX9_open_59 (by decide) (by first | exact hG _ _ | assumption | (constructor <;> omega)) (by first | exact hG _ _ | assumption | (constructor <;> omega)) (fun c59 => absurd c59 (by omega)) (fun c59 => ?_)
          refine aw_ald0 dX9_open_62 ?_
          refine aw_ild7 dX9_open_63 ?_
          refine aw_ild1 dX9_open_65 ?_
          refine aw_V2v dX9_open_66 (c_mIsOfTree (by omega) im hp hen hG) rfl rfl hbY_X9_isOfTree hbm_X9_219 hbi_X9_isOfTree hbe_X9_X9_isOfTree (Nat.le_of_ble_eq_true rfl) ⟨by decide, by decide⟩ (by decide) (by decide) ?_
          refine aw_ifb_eq (tg := 130) dX9_open_69 (by decide) (fun c69 => ?_) (fun c69 => ?_)
          · skip
            refine aw_iinc8 dX9_open_130 (by decide) ?_
            refine aw_goto (tg := 55) dX9_open_133 (by decide) ?_
            first | exact ih2 (k + 1) (b + 1) (by omega) (by omega) (by omega) (by rw [← g3, e8, hb_fd_s ((hb_oj_i (G := G1) (m := m) (pt := (100 * d + 99)) (n := n) (OV := OV) (t := t) (k := k) (by omega)).mpr ⟨c69, c80, c93, c106⟩) (by omega), show i - (b + 1) = i - b - 1 by omega]; rfl) | exact ih2 (k + 1) b (by omega) g1 (by omega) (by rw [← g3, e8, hb_fd_n (P := hb_oj G1 m (100 * d + 99) n OV) (j := t * 16 + k) (fun h9 => by have h7 := (hb_oj_i (G := G1) (m := m) (pt := (100 * d + 99)) (n := n) (OV := OV) (t := t) (k := k) (by omega)).mp h9; first | exact c69 h7.1 | exact h7.2.1 c80 | exact c93 h7.2.2.1 | exact c106 h7.2.2.2)]; rfl)
          · skip
            refine aw_ald0 dX9_open_72 ?_
            refine aw_getf dX9_open_73 hbf_X9_31 rfl rfl ?_
            refine aw_ild8 dX9_open_76 ?_
            refine aw_iald dX9_open_78 rfl (by constructor <;> omega) (by decide) ?_
            refine aw_iconst dX9_open_79 ?_
            refine aw_icmp_eq (tg := 130) dX9_open_80 (by decide) (by first | exact hG _ _ | assumption | (constructor <;> omega)) (by first | exact hG _ _ | assumption | (constructor <;> omega)) (fun c80 => ?_) (fun c80 => ?_)
            · skip
              refine aw_iinc8 dX9_open_130 (by decide) ?_
              refine aw_goto (tg := 55) dX9_open_133 (by decide) ?_
              first | exact ih2 (k + 1) (b + 1) (by omega) (by omega) (by omega) (by rw [← g3, e8, hb_fd_s ((hb_oj_i (G := G1) (m := m) (pt := (100 * d + 99)) (n := n) (OV := OV) (t := t) (k := k) (by omega)).mpr ⟨c69, c80, c93, c106⟩) (by omega), show i - (b + 1) = i - b - 1 by omega]; rfl) | exact ih2 (k + 1) b (by omega) g1 (by omega) (by rw [← g3, e8, hb_fd_n (P := hb_oj G1 m (100 * d + 99) n OV) (j := t * 16 + k) (fun h9 => by have h7 := (hb_oj_i (G := G1) (m := m) (pt := (100 * d + 99)) (n := n) (OV := OV) (t := t) (k := k) (by omega)).mp h9; first | exact c69 h7.1 | exact h7.2.1 c80 | exact c93 h7.2.2.1 | exact c106 h7.2.2.2)]; rfl)
            · skip
              refine aw_ald0 dX9_open_83 ?_
              refine aw_ild7 dX9_open_84 ?_
              refine aw_ild8 dX9_open_86 ?_
              refine aw_ild4 dX9_open_88 ?_
              refine aw_V3v dX9_open_90 (c_mIsAsked (by omega) (by omega) ip hn hn2 hG) rfl rfl hbY_X9_isAsked hbm_X9_213 hbi_X9_isAsked hbe_X9_X9_isAsked (Nat.le_of_ble_eq_true rfl) ⟨by decide, by decide⟩ (by decide) (by decide) ?_
              refine aw_ifb_eq (tg := 130) dX9_open_93 (by decide) (fun c93 => ?_) (fun c93 => ?_)
              · skip
                refine aw_iinc8 dX9_open_130 (by decide) ?_
                refine aw_goto (tg := 55) dX9_open_133 (by decide) ?_
                first | exact ih2 (k + 1) (b + 1) (by omega) (by omega) (by omega) (by rw [← g3, e8, hb_fd_s ((hb_oj_i (G := G1) (m := m) (pt := (100 * d + 99)) (n := n) (OV := OV) (t := t) (k := k) (by omega)).mpr ⟨c69, c80, c93, c106⟩) (by omega), show i - (b + 1) = i - b - 1 by omega]; rfl) | exact ih2 (k + 1) b (by omega) g1 (by omega) (by rw [← g3, e8, hb_fd_n (P := hb_oj G1 m (100 * d + 99) n OV) (j := t * 16 + k) (fun h9 => by have h7 := (hb_oj_i (G := G1) (m := m) (pt := (100 * d + 99)) (n := n) (OV := OV) (t := t) (k := k) (by omega)).mp h9; first | exact c69 h7.1 | exact h7.2.1 c80 | exact c93 h7.2.2.1 | exact c106 h7.2.2.2)]; rfl)
              · skip
                refine aw_ald0 dX9_open_96 ?_
                refine aw_ild7 dX9_open_97 ?_
                refine aw_ild8 dX9_open_99 ?_
                refine aw_ild4 dX9_open_101 ?_
                refine aw_V3v dX9_open_103 (hO t k (by omega) (by omega) c69.1 c80) rfl rfl hbY_X9_isOverdue hbm_X9_216 hbi_X9_isOverdue hbe_X9_X9_isOverdue (Nat.le_of_ble_eq_true rfl) ⟨by decide, by decide⟩ (by decide) (by decide) ?_
                refine aw_ifb_ne (tg := 112) dX9_open_106 (by decide) (fun c106 => ?_) (fun c106 => ?_)
                · skip
                  refine aw_ild6 dX9_open_112 ?_
                  refine aw_ild3 dX9_open_114 ?_
                  refine aw_icmp_ne (tg := 127) dX9_open_115 (by decide) (by constructor <;> omega) ii (fun c115 => ?_) (fun c115 => ?_)
                  · skip
                    refine aw_iinc6 dX9_open_127 (by decide) ?_
                    refine aw_iinc8 dX9_open_130 (by decide) ?_
                    refine aw_goto (tg := 55) dX9_open_133 (by decide) ?_
                    first | exact ih2 (k + 1) (b + 1) (by omega) (by omega) (by omega) (by rw [← g3, e8, hb_fd_s ((hb_oj_i (G := G1) (m := m) (pt := (100 * d + 99)) (n := n) (OV := OV) (t := t) (k := k) (by omega)).mpr ⟨c69, c80, c93, c106⟩) (by omega), show i - (b + 1) = i - b - 1 by omega]; rfl) | exact ih2 (k + 1) b (by omega) g1 (by omega) (by rw [← g3, e8, hb_fd_n (P := hb_oj G1 m (100 * d + 99) n OV) (j := t * 16 + k) (fun h9 => by have h7 := (hb_oj_i (G := G1) (m := m) (pt := (100 * d + 99)) (n := n) (OV := OV) (t := t) (k := k) (by omega)).mp h9; first | exact c69 h7.1 | exact h7.2.1 c80 | exact c93 h7.2.2.1 | exact c106 h7.2.2.2)]; rfl)
                  · skip
                    refine aw_bipush dX9_open_118 (by decide) ?_
                    refine aw_ild7 dX9_open_120 ?_
                    refine aw_imul dX9_open_122 ?_
                    refine aw_ild8 dX9_open_123 ?_
                    refine aw_iadd dX9_open_125 ?_
                    exact aw_iret dX9_open_126 rfl (by rw [← g3, e8, show i - b = 0 by omega, hb_fd_0 ((hb_oj_i (G := G1) (m := m) (pt := (100 * d + 99)) (n := n) (OV := OV) (t := t) (k := k) (by omega)).mpr ⟨c69, c80, c93, c106⟩)]; exact congrArg (fun z => (Sum.inl (some (hb_i z)) : hb_O)) (by omega)) rfl rfl (by decide) (by decide)
                · skip
                  refine aw_goto (tg := 130) dX9_open_109 (by decide) ?_
                  refine aw_iinc8 dX9_open_130 (by decide) ?_
                  refine aw_goto (tg := 55) dX9_open_133 (by decide) ?_
                  first | exact ih2 (k + 1) (b + 1) (by omega) (by omega) (by omega) (by rw [← g3, e8, hb_fd_s ((hb_oj_i (G := G1) (m := m) (pt := (100 * d + 99)) (n := n) (OV := OV) (t := t) (k := k) (by omega)).mpr ⟨c69, c80, c93, c106⟩) (by omega), show i - (b + 1) = i - b - 1 by omega]; rfl) | exact ih2 (k + 1) b (by omega) g1 (by omega) (by rw [← g3, e8, hb_fd_n (P := hb_oj G1 m (100 * d + 99) n OV) (j := t * 16 + k) (fun h9 => by have h7 := (hb_oj_i (G := G1) (m := m) (pt := (100 * d + 99)) (n := n) (OV := OV) (t := t) (k := k) (by omega)).mp h9; first | exact c69 h7.1 | exact h7.2.1 c80 | exact c93 h7.2.2.1 | exact c106 h7.2.2.2)]; rfl)
      refine aw_ild7 dX9_open_45 ?_
      refine aw_bipush dX9_open_47 (by decide) ?_
      refine aw_icmp_ge (tg := 142) dX9_open_49 (by decide) (by first | exact hG _ _ | assumption | (constructor <;> omega)) (by first | exact hG _ _ | assumption | (constructor <;> omega)) (fun c49 => absurd c49 (by omega)) (fun c49 => ?_)
      refine aw_iconst dX9_open_52 ?_
      refine aw_ipu8 dX9_open_53 (by decide) ?_
      exact key2 16 0 b (by omega) h1 (by omega) h3
  refine aw_ald0 dX9_open_0 ?_
  refine aw_iconst dX9_open_1 ?_
  refine aw_putz (jz := 0) dX9_open_2 hbf_X9_95 hbS_X9 (fun C T n h9 => by cases h9; exact ⟨rfl, by decide +kernel, fun h8 => by cases h8⟩) rfl rfl rfl rfl ?_
  refine aw_ald0 dX9_open_5 ?_
  refine aw_ild1 dX9_open_6 ?_
  refine aw_V1v dX9_open_7 (c_mIsMachine (by first | assumption | (constructor <;> omega) | exact hG _ _) hG) rfl rfl hbY_X9_isMachine hbm_X9_153 hbi_X9_isMachine hbe_X9_X9_isMachine (Nat.le_of_ble_eq_true rfl) ⟨by decide, by decide⟩ (by decide) (by decide) ?_
  refine aw_ifb_eq (tg := 20) dX9_open_10 (by decide) (fun c10 => absurd c10 (by exact fun h8 => h8 hP.1)) (fun c10 => ?_)
  refine aw_ild2 dX9_open_13 ?_
  refine aw_S1v dX9_open_14 (c_mIsDay (by first | assumption | (constructor <;> omega) | exact hG _ _)) hbY_X9_isDay hbm_X9_115 hbs_X9_isDay (Nat.le_of_ble_eq_true rfl) ⟨by decide, by decide⟩ (by decide) (by decide) ?_
  refine aw_ifb_ne (tg := 22) dX9_open_17 (by decide) (fun c17 => ?_) (fun c17 => absurd c17 (by exact fun h8 => h8 hP.2))
  refine aw_bipush dX9_open_22 (by decide) ?_
  refine aw_ild2 dX9_open_24 ?_
  refine aw_imul dX9_open_25 ?_
  refine aw_bipush dX9_open_26 (by decide) ?_
  refine aw_iadd dX9_open_28 ?_
  refine aw_ipu4 dX9_open_29 (by decide) ?_
  refine aw_ald0 dX9_open_31 ?_
  refine aw_ild4 dX9_open_32 ?_
  refine aw_V1v dX9_open_34 hA rfl rfl hbY_X9_arrange hbm_X9_189 hbi_X9_arrange hbe_X9_X9_arrange (Nat.le_of_ble_eq_true rfl) ⟨by decide, by decide⟩ (by decide) (by decide) ?_
  refine aw_ipu5 dX9_open_37 (by decide) ?_
  refine aw_iconst dX9_open_39 ?_
  refine aw_ipu6 dX9_open_40 (by decide) ?_
  refine aw_iconst dX9_open_42 ?_
  refine aw_ipu7 dX9_open_43 (by decide) ?_
  exact key 40 0 0 (by omega) (by omega) (by omega) (by rw [show i - 0 = i by omega])
set_option maxRecDepth 20000 in
set_option maxHeartbeats 1000000 in
theorem c_mGroundedN {l : Launch} {G : hb_G} {F : hb_F} {na : Nat} {m d : Int} (im : hb_in m) (id : hb_in d) (hP : ¬ (hb_jm (hb_u2 G 47 0 0) m ∧ (0 ≤ d ∧ d ≤ 30000))) (hG : hb_rg G) : hb_M l yX9_grounded cX9_grounded 6 (some .int) 4 0 0 [hb_r 47, hb_i m, hb_i d] (hb_w G F na) (77 + na) (.inl (some (hb_i (-1)))) (hb_w (hb_u2 G 47 0 0) F na) (77 + na) := by
  refine hb_M_in rfl rfl (by decide) rfl (Nat.le_of_ble_eq_true rfl) ?_
  intro E z0 σ0
  have hG0 := hG
  have hG : hb_rg (hb_u2 G 47 0 0) := hG0.u2 (by decide)
  refine aw_ald0 dX9_grounded_0 ?_
  refine aw_iconst dX9_grounded_1 ?_
  refine aw_putz (jz := 0) dX9_grounded_2 hbf_X9_95 hbS_X9 (fun C T n h9 => by cases h9; exact ⟨rfl, by decide +kernel, fun h8 => by cases h8⟩) rfl rfl rfl rfl ?_
  refine aw_ald0 dX9_grounded_5 ?_
  refine aw_ild1 dX9_grounded_6 ?_
  refine aw_V1v dX9_grounded_7 (c_mIsMachine (by first | assumption | (constructor <;> omega) | exact hG _ _) hG) rfl rfl hbY_X9_isMachine hbm_X9_153 hbi_X9_isMachine hbe_X9_X9_isMachine (Nat.le_of_ble_eq_true rfl) ⟨by decide, by decide⟩ (by decide) (by decide) ?_
  refine aw_ifb_eq (tg := 20) dX9_grounded_10 (by decide) (fun c10 => ?_) (fun c10 => ?_)
  · skip
    refine aw_iconst dX9_grounded_20 ?_
    exact aw_iret dX9_grounded_21 rfl (by rfl) rfl rfl (by decide) (by decide)
  · skip
    refine aw_ild2 dX9_grounded_13 ?_
    refine aw_S1v dX9_grounded_14 (c_mIsDay (by first | assumption | (constructor <;> omega) | exact hG _ _)) hbY_X9_isDay hbm_X9_115 hbs_X9_isDay (Nat.le_of_ble_eq_true rfl) ⟨by decide, by decide⟩ (by decide) (by decide) ?_
    refine aw_ifb_ne (tg := 22) dX9_grounded_17 (by decide) (fun c17 => ?_) (fun c17 => ?_)
    · skip
      exact absurd ⟨by assumption, by assumption⟩ hP
    · skip
      refine aw_iconst dX9_grounded_20 ?_
      exact aw_iret dX9_grounded_21 rfl (by rfl) rfl rfl (by decide) (by decide)
def hb_gj (G : hb_G) (pt : Int) (n : Nat) (OV : Int → Int → Prop) (t : Int) : Prop := ((0 < G 49 (G 51 t) ∧ G 49 (G 51 t) < hb_cj G t 0 pt n) ∨ (0 < G 50 (G 51 t) ∧ G 50 (G 51 t) < hb_cj G t 1 pt n)) ∨ hb_jp G t 4 ∨ hb_jw G t pt n (OV t) 8
def hb_gk (G : hb_G) (m pt : Int) (n : Nat) (OV : Int → Int → Prop) (j : Int) : Prop := ∃ t, (0 ≤ t ∧ t < j) ∧ (hb_jr G m t ∧ hb_gj G pt n OV t)
set_option maxRecDepth 20000 in
set_option maxHeartbeats 1000000 in
theorem c_mGroundedY {l : Launch} {G : hb_G} {F : hb_F} {na : Nat} {m d : Int} {n : Nat} {OV : Int → Int → Prop} (im : hb_in m) (id : hb_in d) (hP : hb_jm (hb_u2 G 47 0 0) m ∧ (0 ≤ d ∧ d ≤ 30000)) {G1 : hb_G} (hA : hb_M l yX9_arrange cX9_arrange 3 (some .boolean) 3 0 0 [hb_r 47, hb_i (100 * d + 99)] (hb_w (hb_u2 G 47 0 0) F na) (77 + na) (.inl (some (hb_i (1)))) (hb_w G1 F na) (77 + na)) (hG1 : hb_rg G1) (hp : hb_tr (G1 71)) (hen : ∀ t, 0 ≤ t ∧ t < 40 → hb_en (G1 71) 4 t)  (hn : G1 47 17 = n) (hn2 : n ≤ 200) (hO : ∀ t k, 0 ≤ t ∧ t < 40 → 0 ≤ k ∧ k < 16 → G1 51 t ≠ -1 → G1 55 k ≠ -1 → hb_M l yX9_isOverdue cX9_isOverdue 5 (some .boolean) 2 0 0 [hb_r 47, hb_i t, hb_i k, hb_i (100 * d + 99)] (hb_w G1 F na) (77 + na) (.inl (some (hb_i (hb_b (OV t k))))) (hb_w G1 F na) (77 + na))  (hkd : ∀ t, 0 ≤ t ∧ t < 40 → G1 51 t ≠ -1 → 0 ≤ G1 51 t ∧ G1 51 t < 12) (hcj : ∀ t, 0 ≤ t ∧ t < 40 → hb_in (hb_cj G1 t 0 (100 * d + 99) n) ∧ hb_in (hb_cj G1 t 1 (100 * d + 99) n)) (hot : ∀ j, 0 ≤ j ∧ j < 8 → G1 58 j ≠ -1 → (0 ≤ G1 61 j ∧ G1 61 j < 16) ∧ G1 55 (G1 61 j) ≠ -1) (hG : hb_rg G) : hb_M l yX9_grounded cX9_grounded 6 (some .int) 4 0 0 [hb_r 47, hb_i m, hb_i d] (hb_w G F na) (77 + na) (.inl (some (hb_i (hb_b (hb_gk G1 m (100 * d + 99) n OV 40))))) (hb_w G1 F na) (77 + na) := by
  refine hb_M_in rfl rfl (by decide) rfl (Nat.le_of_ble_eq_true rfl) ?_
  intro E z0 σ0
  have hG0 := hG
  have hG : hb_rg (hb_u2 G 47 0 0) := hG0.u2 (by decide)
  have q3 : 0 ≤ d ∧ d ≤ 30000 := hP.2
  have ip : hb_in (100 * d + 99) := by constructor <;> omega
  have key : ∀ (r : Nat) (j : Int), 0 ≤ j → j ≤ 40 → 40 - j < r → ¬ hb_gk G1 m (100 * d + 99) n OV j → hb_W l RX9 cX9_grounded 6 (some .int) "grounded" [] E z0 (hb_rm 4 0 0) σ0 (77 + na) (.inl (some (hb_i (hb_b (hb_gk G1 m (100 * d + 99) n OV 40))))) (hb_w G1 F na) (77 + na) 0 0 40 [hb_r 47, hb_i m, hb_i d, hb_i (100 * d + 99), hb_i 1, hb_i j] [] (hb_w G1 F na) (77 + na) := by
    intro r
    induction r with
    | zero => intro j h1 h2 h3; omega
    | succ r ih =>
      intro j h1 h2 h3 hno
      have hG := hG1
      refine aw_ild5 dX9_grounded_40 ?_
      refine aw_bipush dX9_grounded_42 (by decide) ?_
      refine aw_icmp_ge (tg := 94) dX9_grounded_44 (by decide) (by first | exact hG _ _ | assumption | (constructor <;> omega)) (by first | exact hG _ _ | assumption | (constructor <;> omega)) (fun c44 => ?_) (fun c44 => ?_)
      · skip
        refine aw_iconst dX9_grounded_94 ?_
        exact aw_iret dX9_grounded_95 rfl (by first | exact hb_oi1 ⟨j, by omega, c54, Or.inr (Or.inr (by assumption))⟩ | exact hb_oi1 ⟨j, by omega, c54, Or.inr (Or.inl (by assumption))⟩ | exact hb_oi1 ⟨j, by omega, c54, Or.inl (by assumption)⟩ | exact hb_oi0 (by have e9 : j = 40 := (by omega); subst e9; exact hno)) rfl rfl (by decide) (by decide)
      · skip
        have qj : 0 ≤ j ∧ j < 40 := by omega
        have qk := hkd j qj
        have qc := hcj j qj
        refine aw_ald0 dX9_grounded_47 ?_
        refine aw_ild5 dX9_grounded_48 ?_
        refine aw_ild1 dX9_grounded_50 ?_
        refine aw_V2v dX9_grounded_51 (c_mIsOfTree qj im hp hen hG) rfl rfl hbY_X9_isOfTree hbm_X9_219 hbi_X9_isOfTree hbe_X9_X9_isOfTree (Nat.le_of_ble_eq_true rfl) ⟨by decide, by decide⟩ (by decide) (by decide) ?_
        refine aw_ifb_eq (tg := 88) dX9_grounded_54 (by decide) (fun c54 => ?_) (fun c54 => ?_)
        · skip
          refine aw_iinc5 dX9_grounded_88 (by decide) ?_
          refine aw_goto (tg := 40) dX9_grounded_91 (by decide) ?_
          exact ih (j + 1) (by omega) (by omega) (by omega) (by unfold hb_gk at hno ⊢; rw [hb_exs h1]; rintro (h9 | ⟨h9, h8⟩); exact hno h9; first | exact c54 h9 | (rcases h8 with h8 | h8 | h8; exact c64 h8; exact c73 h8; exact c83 h8))
        · skip
          refine aw_ald0 dX9_grounded_57 ?_
          refine aw_ild5 dX9_grounded_58 ?_
          refine aw_ild3 dX9_grounded_60 ?_
          refine aw_V2v dX9_grounded_61 (c_mIsWorn qj (qk c54.1) ip (by omega) hn hn2 qc.1 qc.2 hG) rfl rfl hbY_X9_isWorn hbm_X9_222 hbi_X9_isWorn hbe_X9_X9_isWorn (Nat.le_of_ble_eq_true rfl) ⟨by decide, by decide⟩ (by decide) (by decide) ?_
          refine aw_ifb_ne (tg := 86) dX9_grounded_64 (by decide) (fun c64 => ?_) (fun c64 => ?_)
          · skip
            refine aw_iconst dX9_grounded_86 ?_
            exact aw_iret dX9_grounded_87 rfl (by first | exact hb_oi1 ⟨j, by omega, c54, Or.inr (Or.inr (by assumption))⟩ | exact hb_oi1 ⟨j, by omega, c54, Or.inr (Or.inl (by assumption))⟩ | exact hb_oi1 ⟨j, by omega, c54, Or.inl (by assumption)⟩ | exact hb_oi0 (by have e9 : j = 40 := (by omega); subst e9; exact hno)) rfl rfl (by decide) (by decide)
          · skip
            refine aw_ald0 dX9_grounded_67 ?_
            refine aw_ild5 dX9_grounded_68 ?_
            refine aw_V1v dX9_grounded_70 (c_mIsIncomplete qj (qk c54.1) hG) rfl rfl hbY_X9_isIncomplete hbm_X9_225 hbi_X9_isIncomplete hbe_X9_X9_isIncomplete (Nat.le_of_ble_eq_true rfl) ⟨by decide, by decide⟩ (by decide) (by decide) ?_
            refine aw_ifb_ne (tg := 86) dX9_grounded_73 (by decide) (fun c73 => ?_) (fun c73 => ?_)
            · skip
              refine aw_iconst dX9_grounded_86 ?_
              exact aw_iret dX9_grounded_87 rfl (by first | exact hb_oi1 ⟨j, by omega, c54, Or.inr (Or.inr (by assumption))⟩ | exact hb_oi1 ⟨j, by omega, c54, Or.inr (Or.inl (by assumption))⟩ | exact hb_oi1 ⟨j, by omega, c54, Or.inl (by assumption)⟩ | exact hb_oi0 (by have e9 : j = 40 := (by omega); subst e9; exact hno)) rfl rfl (by decide) (by decide)
            · skip
              refine aw_ald0 dX9_grounded_76 ?_
              refine aw_ild5 dX9_grounded_77 ?_
              refine aw_ild3 dX9_grounded_79 ?_
              refine aw_V2v dX9_grounded_80 (c_mIsHeld (OV := OV j) qj ip hn hn2 (fun o9 h8 h7 => ⟨(hot o9 h8 h7).1, hO j (G1 61 o9) qj (hot o9 h8 h7).1 c54.1 (hot o9 h8 h7).2⟩) hG) rfl rfl hbY_X9_isHeld hbm_X9_228 hbi_X9_isHeld hbe_X9_X9_isHeld (Nat.le_of_ble_eq_true rfl) ⟨by decide, by decide⟩ (by decide) (by decide) ?_
              refine aw_ifb_eq (tg := 88) dX9_grounded_83 (by decide) (fun c83 => ?_) (fun c83 => ?_)
              · skip
                refine aw_iinc5 dX9_grounded_88 (by decide) ?_
                refine aw_goto (tg := 40) dX9_grounded_91 (by decide) ?_
                exact ih (j + 1) (by omega) (by omega) (by omega) (by unfold hb_gk at hno ⊢; rw [hb_exs h1]; rintro (h9 | ⟨h9, h8⟩); exact hno h9; first | exact c54 h9 | (rcases h8 with h8 | h8 | h8; exact c64 h8; exact c73 h8; exact c83 h8))
              · skip
                refine aw_iconst dX9_grounded_86 ?_
                exact aw_iret dX9_grounded_87 rfl (by first | exact hb_oi1 ⟨j, by omega, c54, Or.inr (Or.inr (by assumption))⟩ | exact hb_oi1 ⟨j, by omega, c54, Or.inr (Or.inl (by assumption))⟩ | exact hb_oi1 ⟨j, by omega, c54, Or.inl (by assumption)⟩ | exact hb_oi0 (by have e9 : j = 40 := (by omega); subst e9; exact hno)) rfl rfl (by decide) (by decide)
  refine aw_ald0 dX9_grounded_0 ?_
  refine aw_iconst dX9_grounded_1 ?_
  refine aw_putz (jz := 0) dX9_grounded_2 hbf_X9_95 hbS_X9 (fun C T n h9 => by cases h9; exact ⟨rfl, by decide +kernel, fun h8 => by cases h8⟩) rfl rfl rfl rfl ?_
  refine aw_ald0 dX9_grounded_5 ?_
  refine aw_ild1 dX9_grounded_6 ?_
  refine aw_V1v dX9_grounded_7 (c_mIsMachine (by first | assumption | (constructor <;> omega) | exact hG _ _) hG) rfl rfl hbY_X9_isMachine hbm_X9_153 hbi_X9_isMachine hbe_X9_X9_isMachine (Nat.le_of_ble_eq_true rfl) ⟨by decide, by decide⟩ (by decide) (by decide) ?_
  refine aw_ifb_eq (tg := 20) dX9_grounded_10 (by decide) (fun c10 => absurd c10 (by exact fun h8 => h8 hP.1)) (fun c10 => ?_)
  refine aw_ild2 dX9_grounded_13 ?_
  refine aw_S1v dX9_grounded_14 (c_mIsDay (by first | assumption | (constructor <;> omega) | exact hG _ _)) hbY_X9_isDay hbm_X9_115 hbs_X9_isDay (Nat.le_of_ble_eq_true rfl) ⟨by decide, by decide⟩ (by decide) (by decide) ?_
  refine aw_ifb_ne (tg := 22) dX9_grounded_17 (by decide) (fun c17 => ?_) (fun c17 => absurd c17 (by exact fun h8 => h8 hP.2))
  refine aw_bipush dX9_grounded_22 (by decide) ?_
  refine aw_ild2 dX9_grounded_24 ?_
  refine aw_imul dX9_grounded_25 ?_
  refine aw_bipush dX9_grounded_26 (by decide) ?_
  refine aw_iadd dX9_grounded_28 ?_
  refine aw_ipu3 dX9_grounded_29 (by decide) ?_
  refine aw_ald0 dX9_grounded_30 ?_
  refine aw_ild3 dX9_grounded_31 ?_
  refine aw_V1v dX9_grounded_32 hA rfl rfl hbY_X9_arrange hbm_X9_189 hbi_X9_arrange hbe_X9_X9_arrange (Nat.le_of_ble_eq_true rfl) ⟨by decide, by decide⟩ (by decide) (by decide) ?_
  refine aw_ipu4 dX9_grounded_35 (by decide) ?_
  refine aw_iconst dX9_grounded_37 ?_
  refine aw_ipu5 dX9_grounded_38 (by decide) ?_
  exact key 41 0 (by omega) (by omega) (by omega) (fun ⟨p9, h8, _⟩ => by omega)
def hb_on (du cn day each : Int) : Int := if du - cn < 0 then day else if each = 0 then 50000 else day + (du - cn) / each + 1
def hb_ol (least iv du cn day each : Int) : Int := if iv = 0 then least else if hb_on du cn day each < least then hb_on du cn day each else least
theorem hb_on_in {du cn day each : Int} (h1 : -1000000000 ≤ du ∧ du ≤ 1000000000) (h2 : -1000000000 ≤ cn ∧ cn ≤ 1000000000) (h3 : 0 ≤ day ∧ day ≤ 30000) (h4 : 0 ≤ each ∧ each ≤ 1440) : 0 ≤ hb_on du cn day each ∧ hb_on du cn day each ≤ 2000100000 := by
  unfold hb_on
  split
  · omega
  · split
    · omega
    · have h5 : 0 ≤ (du - cn) / each := Int.ediv_nonneg (by omega) (by omega)
      have h6 : (du - cn) / each ≤ du - cn := Int.ediv_le_self _ (by omega)
      omega
theorem hb_ol_in {least iv du cn day each : Int} (h0 : 0 ≤ least ∧ least ≤ 50000) (h1 : -1000000000 ≤ du ∧ du ≤ 1000000000) (h2 : -1000000000 ≤ cn ∧ cn ≤ 1000000000) (h3 : 0 ≤ day ∧ day ≤ 30000) (h4 : 0 ≤ each ∧ each ≤ 1440) : 0 ≤ hb_ol least iv du cn day each ∧ hb_ol least iv du cn day each ≤ 50000 := by
  have := hb_on_in h1 h2 h3 h4
  unfold hb_ol
  split
  · omega
  · split <;> omega
theorem hb_ol_z {least iv du cn day each : Int} (h : iv = 0) : hb_ol least iv du cn day each = least := by unfold hb_ol; rw [if_pos h]
theorem hb_ol_a {least iv du cn day each v : Int} (h : iv ≠ 0) (hv : hb_on du cn day each = v) (h2 : v < least) : hb_ol least iv du cn day each = v := by unfold hb_ol; rw [if_neg h, hv, if_pos h2]
theorem hb_ol_b {least iv du cn day each v : Int} (h : iv ≠ 0) (hv : hb_on du cn day each = v) (h2 : ¬ v < least) : hb_ol least iv du cn day each = least := by unfold hb_ol; rw [if_neg h, hv, if_neg h2]
theorem hb_on_1 {du cn day each : Int} (h : du - cn < 0) : hb_on du cn day each = day := by unfold hb_on; rw [if_pos h]
theorem hb_on_2 {du cn day each : Int} (h : ¬ du - cn < 0) (h2 : each = 0) : hb_on du cn day each = 50000 := by unfold hb_on; rw [if_neg h, if_pos h2]
theorem hb_on_3 {du cn day each : Int} (h : ¬ du - cn < 0) (h2 : each ≠ 0) : hb_on du cn day each = day + (du - cn) / each + 1 := by unfold hb_on; rw [if_neg h, if_neg h2]
set_option maxRecDepth 20000 in
set_option maxHeartbeats 1000000 in
theorem c_mOverdueOn {l : Launch} {G : hb_G} {F : hb_F} {na : Nat} {t k d m c d0 d1 d2 : Int} {n : Nat} (ht : 0 ≤ t ∧ t < 40) (hk : 0 ≤ k ∧ k < 16) (hd : 0 ≤ d ∧ d ≤ 30000) (hm : 0 ≤ m ∧ m ≤ 1440) (hc : 0 ≤ c ∧ c ≤ 1440) (hn : G 47 17 = n) (hn2 : n ≤ 200) (b0 : -1000000000 ≤ d0 ∧ d0 ≤ 1000000000) (e0 : -1000000000 ≤ (hb_cj G t 0 (100 * d + 99) n) ∧ (hb_cj G t 0 (100 * d + 99) n) ≤ 1000000000) (hD0 : G 56 (3 * k + 0) ≠ 0 → hb_M l yX9_dueAt cX9_dueAt 14 (some .int) 1 0 0 [hb_r 47, hb_i t, hb_i k, hb_i 0, hb_i (100 * d + 99)] (hb_w G F na) (77 + na) (.inl (some (hb_i (d0)))) (hb_w G F na) (77 + na)) (b1 : -1000000000 ≤ d1 ∧ d1 ≤ 1000000000) (e1 : -1000000000 ≤ (hb_cj G t 1 (100 * d + 99) n) ∧ (hb_cj G t 1 (100 * d + 99) n) ≤ 1000000000) (hD1 : G 56 (3 * k + 1) ≠ 0 → hb_M l yX9_dueAt cX9_dueAt 14 (some .int) 1 0 0 [hb_r 47, hb_i t, hb_i k, hb_i 1, hb_i (100 * d + 99)] (hb_w G F na) (77 + na) (.inl (some (hb_i (d1)))) (hb_w G F na) (77 + na)) (b2 : -1000000000 ≤ d2 ∧ d2 ≤ 1000000000) (e2 : -1000000000 ≤ (hb_cj G t 2 (100 * d + 99) n) ∧ (hb_cj G t 2 (100 * d + 99) n) ≤ 1000000000) (hD2 : G 56 (3 * k + 2) ≠ 0 → hb_M l yX9_dueAt cX9_dueAt 14 (some .int) 1 0 0 [hb_r 47, hb_i t, hb_i k, hb_i 2, hb_i (100 * d + 99)] (hb_w G F na) (77 + na) (.inl (some (hb_i (d2)))) (hb_w G F na) (77 + na)) (hG : hb_rg G) : hb_M l yX9_overdueOn cX9_overdueOn 12 (some .int) 2 0 0 [hb_r 47, hb_i t, hb_i k, hb_i d, hb_i m, hb_i c] (hb_w G F na) (77 + na) (.inl (some (hb_i ((hb_ol (hb_ol (hb_ol 50000 (G 56 (3 * k + 0)) d0 (hb_cj G t 0 (100 * d + 99) n) d m) (G 56 (3 * k + 1)) d1 (hb_cj G t 1 (100 * d + 99) n) d c) (G 56 (3 * k + 2)) d2 (hb_cj G t 2 (100 * d + 99) n) d 1))))) (hb_w G F na) (77 + na) := by
  refine hb_M_in rfl rfl (by decide) rfl (Nat.le_of_ble_eq_true rfl) ?_
  intro E z0 σ0
  have ip : hb_in (100 * d + 99) := by constructor <;> omega
  have l1 := hb_ol_in (iv := G 56 (3 * k + 0)) (show 0 ≤ (50000 : Int) ∧ (50000 : Int) ≤ 50000 by decide) b0 e0 hd hm
  have o0 := hb_on_in b0 e0 hd hm
  have l2 := hb_ol_in (iv := G 56 (3 * k + 1)) l1 b1 e1 hd hc
  have o1 := hb_on_in b1 e1 hd hc
  have l3 := hb_ol_in (iv := G 56 (3 * k + 2)) l2 b2 e2 hd (show 0 ≤ (1 : Int) ∧ (1 : Int) ≤ 1440 by decide)
  have o2 := hb_on_in b2 e2 hd (show 0 ≤ (1 : Int) ∧ (1 : Int) ≤ 1440 by decide)
  have k3 : hb_W l RX9 cX9_overdueOn 12 (some .int) "overdueOn" [] E z0 (hb_rm 2 0 0) σ0 (77 + na) (.inl (some (hb_i ((hb_ol (hb_ol (hb_ol 50000 (G 56 (3 * k + 0)) d0 (hb_cj G t 0 (100 * d + 99) n) d m) (G 56 (3 * k + 1)) d1 (hb_cj G t 1 (100 * d + 99) n) d c) (G 56 (3 * k + 2)) d2 (hb_cj G t 2 (100 * d + 99) n) d 1))))) (hb_w G F na) (77 + na) 0 0 16 [hb_r 47, hb_i t, hb_i k, hb_i d, hb_i m, hb_i c, hb_i (100 * d + 99), hb_i (hb_ol (hb_ol (hb_ol 50000 (G 56 (3 * k + 0)) d0 (hb_cj G t 0 (100 * d + 99) n) d m) (G 56 (3 * k + 1)) d1 (hb_cj G t 1 (100 * d + 99) n) d c) (G 56 (3 * k + 2)) d2 (hb_cj G t 2 (100 * d + 99) n) d 1), hb_i 3] [] (hb_w G F na) (77 + na) := by
    refine aw_ild8 dX9_overdueOn_16 ?_
    refine aw_iconst dX9_overdueOn_18 ?_
    refine aw_icmp_ge (tg := 137) dX9_overdueOn_19 (by decide) (by decide) (by decide) (fun c19 => ?_) (fun c19 => absurd c19 (by decide))
    refine aw_ild7 dX9_overdueOn_137 ?_
    exact aw_iret dX9_overdueOn_139 rfl (by rfl) rfl rfl (by decide) (by decide)
  have k2 : hb_W l RX9 cX9_overdueOn 12 (some .int) "overdueOn" [] E z0 (hb_rm 2 0 0) σ0 (77 + na) (.inl (some (hb_i ((hb_ol (hb_ol (hb_ol 50000 (G 56 (3 * k + 0)) d0 (hb_cj G t 0 (100 * d + 99) n) d m) (G 56 (3 * k + 1)) d1 (hb_cj G t 1 (100 * d + 99) n) d c) (G 56 (3 * k + 2)) d2 (hb_cj G t 2 (100 * d + 99) n) d 1))))) (hb_w G F na) (77 + na) 0 0 16 [hb_r 47, hb_i t, hb_i k, hb_i d, hb_i m, hb_i c, hb_i (100 * d + 99), hb_i (hb_ol (hb_ol 50000 (G 56 (3 * k + 0)) d0 (hb_cj G t 0 (100 * d + 99) n) d m) (G 56 (3 * k + 1)) d1 (hb_cj G t 1 (100 * d + 99) n) d c), hb_i 2] [] (hb_w G F na) (77 + na) := by
    refine aw_ild8 dX9_overdueOn_16 ?_
    refine aw_iconst dX9_overdueOn_18 ?_
    refine aw_icmp_ge (tg := 137) dX9_overdueOn_19 (by decide) (by decide) (by decide) (fun c19 => absurd c19 (by decide)) (fun c19 => ?_)
    refine aw_ald0 dX9_overdueOn_22 ?_
    refine aw_getf dX9_overdueOn_23 hbf_X9_34 rfl rfl ?_
    refine aw_iconst dX9_overdueOn_26 ?_
    refine aw_ild2 dX9_overdueOn_27 ?_
    refine aw_imul dX9_overdueOn_28 ?_
    refine aw_ild8 dX9_overdueOn_29 ?_
    refine aw_iadd dX9_overdueOn_31 ?_
    refine aw_iald dX9_overdueOn_32 rfl (by constructor <;> omega) (by decide) ?_
    refine aw_if_ne (tg := 39) dX9_overdueOn_33 (by decide) (hG _ _) (fun c33 => ?_) (fun c33 => ?_)
    · skip
      refine aw_ald0 dX9_overdueOn_39 ?_
      refine aw_ild1 dX9_overdueOn_40 ?_
      refine aw_ild2 dX9_overdueOn_41 ?_
      refine aw_ild8 dX9_overdueOn_42 ?_
      refine aw_ild6 dX9_overdueOn_44 ?_
      refine aw_V4v dX9_overdueOn_46 (hD2 c33) rfl rfl hbY_X9_dueAt hbm_X9_206 hbi_X9_dueAt hbe_X9_X9_dueAt (Nat.le_of_ble_eq_true rfl) ⟨by decide, by decide⟩ (by decide) (by decide) ?_
      refine aw_ald0 dX9_overdueOn_49 ?_
      refine aw_ild1 dX9_overdueOn_50 ?_
      refine aw_ild8 dX9_overdueOn_51 ?_
      refine aw_ild6 dX9_overdueOn_53 ?_
      refine aw_V3v dX9_overdueOn_55 (c_mCounterAt2 ht ip (by omega) hn hn2 hG) rfl rfl hbY_X9_counterAt hbm_X9_192 hbi_X9_counterAt hbe_X9_X9_counterAt (Nat.le_of_ble_eq_true rfl) ⟨by decide, by decide⟩ (by decide) (by decide) ?_
      refine aw_isub dX9_overdueOn_58 ?_
      refine aw_ipu9 dX9_overdueOn_59 (by decide) ?_
      refine aw_ild8 dX9_overdueOn_61 ?_
      refine aw_if_ne (tg := 71) dX9_overdueOn_63 (by decide) (by decide) (fun c63 => ?_) (fun c63 => absurd c63 (by decide))
      refine aw_ild8 dX9_overdueOn_71 ?_
      refine aw_iconst dX9_overdueOn_73 ?_
      refine aw_icmp_ne (tg := 82) dX9_overdueOn_74 (by decide) (by decide) (by decide) (fun c74 => ?_) (fun c74 => absurd c74 (by decide))
      refine aw_iconst dX9_overdueOn_82 ?_
      refine aw_ipu10 dX9_overdueOn_83 (by decide) ?_
      refine aw_ild9 dX9_overdueOn_85 ?_
      refine aw_if_ge (tg := 94) dX9_overdueOn_87 (by decide) (by constructor <;> omega) (fun c87 => ?_) (fun c87 => ?_)
      · skip
        refine aw_ild10 dX9_overdueOn_94 ?_
        refine aw_if_ne (tg := 104) dX9_overdueOn_96 (by decide) (by decide) (fun c96 => ?_) (fun c96 => absurd c96 (by decide))
        refine aw_ild3 dX9_overdueOn_104 ?_
        refine aw_ild9 dX9_overdueOn_105 ?_
        refine aw_ild10 dX9_overdueOn_107 ?_
        refine aw_idiv dX9_overdueOn_109 (by constructor <;> omega) (by constructor <;> omega) (by omega) (by omega) ?_
        refine aw_iadd dX9_overdueOn_110 ?_
        refine aw_iconst dX9_overdueOn_111 ?_
        refine aw_iadd dX9_overdueOn_112 ?_
        refine aw_ipu11 dX9_overdueOn_113 (by decide) ?_
        refine aw_ild11 dX9_overdueOn_115 ?_
        refine aw_ild7 dX9_overdueOn_117 ?_
        refine aw_icmp_ge (tg := 127) dX9_overdueOn_119 (by decide) (by first | (constructor <;> omega) | (have h8 := o2; rw [hb_on_3 (by omega) (by first | assumption | decide)] at h8; constructor <;> omega)) (by constructor <;> omega) (fun c119 => ?_) (fun c119 => ?_)
        · skip
          refine aw_ild7 dX9_overdueOn_127 ?_
          refine aw_ist7 dX9_overdueOn_129 (by decide) ?_
          refine aw_iinc8 dX9_overdueOn_131 (by decide) ?_
          refine aw_goto (tg := 16) dX9_overdueOn_134 (by decide) ?_
          refine aw_dk_9_3 ?_
          refine aw_ls (ls2 := [hb_r 47, hb_i t, hb_i k, hb_i d, hb_i m, hb_i c, hb_i (100 * d + 99), hb_i (hb_ol (hb_ol (hb_ol 50000 (G 56 (3 * k + 0)) d0 (hb_cj G t 0 (100 * d + 99) n) d m) (G 56 (3 * k + 1)) d1 (hb_cj G t 1 (100 * d + 99) n) d c) (G 56 (3 * k + 2)) d2 (hb_cj G t 2 (100 * d + 99) n) d 1), hb_i 3]) (congrArg (fun z => [hb_r 47, hb_i t, hb_i k, hb_i d, hb_i m, hb_i c, hb_i (100 * d + 99), hb_i z, hb_i 3]) (by first | exact (hb_ol_a c33 (hb_on_1 c87) (by omega)).symm | exact (hb_ol_b c33 (hb_on_1 c87) (by omega)).symm | exact (hb_ol_a c33 (hb_on_2 (by omega) c96) (by omega)).symm | exact (hb_ol_b c33 (hb_on_2 (by omega) c96) (by omega)).symm | exact (hb_ol_a c33 (hb_on_3 (by omega) c96) (by omega)).symm | exact (hb_ol_b c33 (hb_on_3 (by omega) c96) (by omega)).symm | exact (hb_ol_a c33 (hb_on_3 (by omega) (by decide)) (by omega)).symm | exact (hb_ol_b c33 (hb_on_3 (by omega) (by decide)) (by omega)).symm)) ?_
          exact k3
        · skip
          refine aw_ild11 dX9_overdueOn_122 ?_
          refine aw_goto (tg := 129) dX9_overdueOn_124 (by decide) ?_
          refine aw_ist7 dX9_overdueOn_129 (by decide) ?_
          refine aw_iinc8 dX9_overdueOn_131 (by decide) ?_
          refine aw_goto (tg := 16) dX9_overdueOn_134 (by decide) ?_
          refine aw_dk_9_3 ?_
          refine aw_ls (ls2 := [hb_r 47, hb_i t, hb_i k, hb_i d, hb_i m, hb_i c, hb_i (100 * d + 99), hb_i (hb_ol (hb_ol (hb_ol 50000 (G 56 (3 * k + 0)) d0 (hb_cj G t 0 (100 * d + 99) n) d m) (G 56 (3 * k + 1)) d1 (hb_cj G t 1 (100 * d + 99) n) d c) (G 56 (3 * k + 2)) d2 (hb_cj G t 2 (100 * d + 99) n) d 1), hb_i 3]) (congrArg (fun z => [hb_r 47, hb_i t, hb_i k, hb_i d, hb_i m, hb_i c, hb_i (100 * d + 99), hb_i z, hb_i 3]) (by first | exact (hb_ol_a c33 (hb_on_1 c87) (by omega)).symm | exact (hb_ol_b c33 (hb_on_1 c87) (by omega)).symm | exact (hb_ol_a c33 (hb_on_2 (by omega) c96) (by omega)).symm | exact (hb_ol_b c33 (hb_on_2 (by omega) c96) (by omega)).symm | exact (hb_ol_a c33 (hb_on_3 (by omega) c96) (by omega)).symm | exact (hb_ol_b c33 (hb_on_3 (by omega) c96) (by omega)).symm | exact (hb_ol_a c33 (hb_on_3 (by omega) (by decide)) (by omega)).symm | exact (hb_ol_b c33 (hb_on_3 (by omega) (by decide)) (by omega)).symm)) ?_
          exact k3
      · skip
        refine aw_ild3 dX9_overdueOn_90 ?_
        refine aw_goto (tg := 113) dX9_overdueOn_91 (by decide) ?_
        refine aw_ipu11 dX9_overdueOn_113 (by decide) ?_
        refine aw_ild11 dX9_overdueOn_115 ?_
        refine aw_ild7 dX9_overdueOn_117 ?_
        refine aw_icmp_ge (tg := 127) dX9_overdueOn_119 (by decide) (by first | (constructor <;> omega) | (have h8 := o2; rw [hb_on_3 (by omega) (by first | assumption | decide)] at h8; constructor <;> omega)) (by constructor <;> omega) (fun c119 => ?_) (fun c119 => ?_)
        · skip
          refine aw_ild7 dX9_overdueOn_127 ?_
          refine aw_ist7 dX9_overdueOn_129 (by decide) ?_
          refine aw_iinc8 dX9_overdueOn_131 (by decide) ?_
          refine aw_goto (tg := 16) dX9_overdueOn_134 (by decide) ?_
          refine aw_dk_9_3 ?_
          refine aw_ls (ls2 := [hb_r 47, hb_i t, hb_i k, hb_i d, hb_i m, hb_i c, hb_i (100 * d + 99), hb_i (hb_ol (hb_ol (hb_ol 50000 (G 56 (3 * k + 0)) d0 (hb_cj G t 0 (100 * d + 99) n) d m) (G 56 (3 * k + 1)) d1 (hb_cj G t 1 (100 * d + 99) n) d c) (G 56 (3 * k + 2)) d2 (hb_cj G t 2 (100 * d + 99) n) d 1), hb_i 3]) (congrArg (fun z => [hb_r 47, hb_i t, hb_i k, hb_i d, hb_i m, hb_i c, hb_i (100 * d + 99), hb_i z, hb_i 3]) (by first | exact (hb_ol_a c33 (hb_on_1 c87) (by omega)).symm | exact (hb_ol_b c33 (hb_on_1 c87) (by omega)).symm | exact (hb_ol_a c33 (hb_on_2 (by omega) c96) (by omega)).symm | exact (hb_ol_b c33 (hb_on_2 (by omega) c96) (by omega)).symm | exact (hb_ol_a c33 (hb_on_3 (by omega) c96) (by omega)).symm | exact (hb_ol_b c33 (hb_on_3 (by omega) c96) (by omega)).symm | exact (hb_ol_a c33 (hb_on_3 (by omega) (by decide)) (by omega)).symm | exact (hb_ol_b c33 (hb_on_3 (by omega) (by decide)) (by omega)).symm)) ?_
          exact k3
        · skip
          refine aw_ild11 dX9_overdueOn_122 ?_
          refine aw_goto (tg := 129) dX9_overdueOn_124 (by decide) ?_
          refine aw_ist7 dX9_overdueOn_129 (by decide) ?_
          refine aw_iinc8 dX9_overdueOn_131 (by decide) ?_
          refine aw_goto (tg := 16) dX9_overdueOn_134 (by decide) ?_
          refine aw_dk_9_3 ?_
          refine aw_ls (ls2 := [hb_r 47, hb_i t, hb_i k, hb_i d, hb_i m, hb_i c, hb_i (100 * d + 99), hb_i (hb_ol (hb_ol (hb_ol 50000 (G 56 (3 * k + 0)) d0 (hb_cj G t 0 (100 * d + 99) n) d m) (G 56 (3 * k + 1)) d1 (hb_cj G t 1 (100 * d + 99) n) d c) (G 56 (3 * k + 2)) d2 (hb_cj G t 2 (100 * d + 99) n) d 1), hb_i 3]) (congrArg (fun z => [hb_r 47, hb_i t, hb_i k, hb_i d, hb_i m, hb_i c, hb_i (100 * d + 99), hb_i z, hb_i 3]) (by first | exact (hb_ol_a c33 (hb_on_1 c87) (by omega)).symm | exact (hb_ol_b c33 (hb_on_1 c87) (by omega)).symm | exact (hb_ol_a c33 (hb_on_2 (by omega) c96) (by omega)).symm | exact (hb_ol_b c33 (hb_on_2 (by omega) c96) (by omega)).symm | exact (hb_ol_a c33 (hb_on_3 (by omega) c96) (by omega)).symm | exact (hb_ol_b c33 (hb_on_3 (by omega) c96) (by omega)).symm | exact (hb_ol_a c33 (hb_on_3 (by omega) (by decide)) (by omega)).symm | exact (hb_ol_b c33 (hb_on_3 (by omega) (by decide)) (by omega)).symm)) ?_
          exact k3
    · skip
      refine aw_goto (tg := 131) dX9_overdueOn_36 (by decide) ?_
      refine aw_iinc8 dX9_overdueOn_131 (by decide) ?_
      refine aw_goto (tg := 16) dX9_overdueOn_134 (by decide) ?_
      refine aw_ls (ls2 := [hb_r 47, hb_i t, hb_i k, hb_i d, hb_i m, hb_i c, hb_i (100 * d + 99), hb_i (hb_ol (hb_ol (hb_ol 50000 (G 56 (3 * k + 0)) d0 (hb_cj G t 0 (100 * d + 99) n) d m) (G 56 (3 * k + 1)) d1 (hb_cj G t 1 (100 * d + 99) n) d c) (G 56 (3 * k + 2)) d2 (hb_cj G t 2 (100 * d + 99) n) d 1), hb_i 3]) (congrArg (fun z => [hb_r 47, hb_i t, hb_i k, hb_i d, hb_i m, hb_i c, hb_i (100 * d + 99), hb_i z, hb_i 3]) (hb_ol_z c33).symm) ?_
      exact k3
  have k1 : hb_W l RX9 cX9_overdueOn 12 (some .int) "overdueOn" [] E z0 (hb_rm 2 0 0) σ0 (77 + na) (.inl (some (hb_i ((hb_ol (hb_ol (hb_ol 50000 (G 56 (3 * k + 0)) d0 (hb_cj G t 0 (100 * d + 99) n) d m) (G 56 (3 * k + 1)) d1 (hb_cj G t 1 (100 * d + 99) n) d c) (G 56 (3 * k + 2)) d2 (hb_cj G t 2 (100 * d + 99) n) d 1))))) (hb_w G F na) (77 + na) 0 0 16 [hb_r 47, hb_i t, hb_i k, hb_i d, hb_i m, hb_i c, hb_i (100 * d + 99), hb_i (hb_ol 50000 (G 56 (3 * k + 0)) d0 (hb_cj G t 0 (100 * d + 99) n) d m), hb_i 1] [] (hb_w G F na) (77 + na) := by
    refine aw_ild8 dX9_overdueOn_16 ?_
    refine aw_iconst dX9_overdueOn_18 ?_
    refine aw_icmp_ge (tg := 137) dX9_overdueOn_19 (by decide) (by decide) (by decide) (fun c19 => absurd c19 (by decide)) (fun c19 => ?_)
    refine aw_ald0 dX9_overdueOn_22 ?_
    refine aw_getf dX9_overdueOn_23 hbf_X9_34 rfl rfl ?_
    refine aw_iconst dX9_overdueOn_26 ?_
    refine aw_ild2 dX9_overdueOn_27 ?_
    refine aw_imul dX9_overdueOn_28 ?_
    refine aw_ild8 dX9_overdueOn_29 ?_
    refine aw_iadd dX9_overdueOn_31 ?_
    refine aw_iald dX9_overdueOn_32 rfl (by constructor <;> omega) (by decide) ?_
    refine aw_if_ne (tg := 39) dX9_overdueOn_33 (by decide) (hG _ _) (fun c33 => ?_) (fun c33 => ?_)
    · skip
      refine aw_ald0 dX9_overdueOn_39 ?_
      refine aw_ild1 dX9_overdueOn_40 ?_
      refine aw_ild2 dX9_overdueOn_41 ?_
      refine aw_ild8 dX9_overdueOn_42 ?_
      refine aw_ild6 dX9_overdueOn_44 ?_
      refine aw_V4v dX9_overdueOn_46 (hD1 c33) rfl rfl hbY_X9_dueAt hbm_X9_206 hbi_X9_dueAt hbe_X9_X9_dueAt (Nat.le_of_ble_eq_true rfl) ⟨by decide, by decide⟩ (by decide) (by decide) ?_
      refine aw_ald0 dX9_overdueOn_49 ?_
      refine aw_ild1 dX9_overdueOn_50 ?_
      refine aw_ild8 dX9_overdueOn_51 ?_
      refine aw_ild6 dX9_overdueOn_53 ?_
      refine aw_V3v dX9_overdueOn_55 (c_mCounterAt1 ht ip (by omega) hn hn2 hG) rfl rfl hbY_X9_counterAt hbm_X9_192 hbi_X9_counterAt hbe_X9_X9_counterAt (Nat.le_of_ble_eq_true rfl) ⟨by decide, by decide⟩ (by decide) (by decide) ?_
      refine aw_isub dX9_overdueOn_58 ?_
      refine aw_ipu9 dX9_overdueOn_59 (by decide) ?_
      refine aw_ild8 dX9_overdueOn_61 ?_
      refine aw_if_ne (tg := 71) dX9_overdueOn_63 (by decide) (by decide) (fun c63 => ?_) (fun c63 => absurd c63 (by decide))
      refine aw_ild8 dX9_overdueOn_71 ?_
      refine aw_iconst dX9_overdueOn_73 ?_
      refine aw_icmp_ne (tg := 82) dX9_overdueOn_74 (by decide) (by decide) (by decide) (fun c74 => absurd c74 (by decide)) (fun c74 => ?_)
      refine aw_ild5 dX9_overdueOn_77 ?_
      refine aw_goto (tg := 83) dX9_overdueOn_79 (by decide) ?_
      refine aw_ipu10 dX9_overdueOn_83 (by decide) ?_
      refine aw_ild9 dX9_overdueOn_85 ?_
      refine aw_if_ge (tg := 94) dX9_overdueOn_87 (by decide) (by constructor <;> omega) (fun c87 => ?_) (fun c87 => ?_)
      · skip
        refine aw_ild10 dX9_overdueOn_94 ?_
        refine aw_if_ne (tg := 104) dX9_overdueOn_96 (by decide) (by constructor <;> omega) (fun c96 => ?_) (fun c96 => ?_)
        · skip
          refine aw_ild3 dX9_overdueOn_104 ?_
          refine aw_ild9 dX9_overdueOn_105 ?_
          refine aw_ild10 dX9_overdueOn_107 ?_
          refine aw_idiv dX9_overdueOn_109 (by constructor <;> omega) (by constructor <;> omega) (by omega) (by omega) ?_
          refine aw_iadd dX9_overdueOn_110 ?_
          refine aw_iconst dX9_overdueOn_111 ?_
          refine aw_iadd dX9_overdueOn_112 ?_
          refine aw_ipu11 dX9_overdueOn_113 (by decide) ?_
          refine aw_ild11 dX9_overdueOn_115 ?_
          refine aw_ild7 dX9_overdueOn_117 ?_
          refine aw_icmp_ge (tg := 127) dX9_overdueOn_119 (by decide) (by first | (constructor <;> omega) | (have h8 := o1; rw [hb_on_3 (by omega) (by first | assumption | decide)] at h8; constructor <;> omega)) (by constructor <;> omega) (fun c119 => ?_) (fun c119 => ?_)
          · skip
            refine aw_ild7 dX9_overdueOn_127 ?_
            refine aw_ist7 dX9_overdueOn_129 (by decide) ?_
            refine aw_iinc8 dX9_overdueOn_131 (by decide) ?_
            refine aw_goto (tg := 16) dX9_overdueOn_134 (by decide) ?_
            refine aw_dk_9_3 ?_
            refine aw_ls (ls2 := [hb_r 47, hb_i t, hb_i k, hb_i d, hb_i m, hb_i c, hb_i (100 * d + 99), hb_i (hb_ol (hb_ol 50000 (G 56 (3 * k + 0)) d0 (hb_cj G t 0 (100 * d + 99) n) d m) (G 56 (3 * k + 1)) d1 (hb_cj G t 1 (100 * d + 99) n) d c), hb_i 2]) (congrArg (fun z => [hb_r 47, hb_i t, hb_i k, hb_i d, hb_i m, hb_i c, hb_i (100 * d + 99), hb_i z, hb_i 2]) (by first | exact (hb_ol_a c33 (hb_on_1 c87) (by omega)).symm | exact (hb_ol_b c33 (hb_on_1 c87) (by omega)).symm | exact (hb_ol_a c33 (hb_on_2 (by omega) c96) (by omega)).symm | exact (hb_ol_b c33 (hb_on_2 (by omega) c96) (by omega)).symm | exact (hb_ol_a c33 (hb_on_3 (by omega) c96) (by omega)).symm | exact (hb_ol_b c33 (hb_on_3 (by omega) c96) (by omega)).symm)) ?_
            exact k2
          · skip
            refine aw_ild11 dX9_overdueOn_122 ?_
            refine aw_goto (tg := 129) dX9_overdueOn_124 (by decide) ?_
            refine aw_ist7 dX9_overdueOn_129 (by decide) ?_
            refine aw_iinc8 dX9_overdueOn_131 (by decide) ?_
            refine aw_goto (tg := 16) dX9_overdueOn_134 (by decide) ?_
            refine aw_dk_9_3 ?_
            refine aw_ls (ls2 := [hb_r 47, hb_i t, hb_i k, hb_i d, hb_i m, hb_i c, hb_i (100 * d + 99), hb_i (hb_ol (hb_ol 50000 (G 56 (3 * k + 0)) d0 (hb_cj G t 0 (100 * d + 99) n) d m) (G 56 (3 * k + 1)) d1 (hb_cj G t 1 (100 * d + 99) n) d c), hb_i 2]) (congrArg (fun z => [hb_r 47, hb_i t, hb_i k, hb_i d, hb_i m, hb_i c, hb_i (100 * d + 99), hb_i z, hb_i 2]) (by first | exact (hb_ol_a c33 (hb_on_1 c87) (by omega)).symm | exact (hb_ol_b c33 (hb_on_1 c87) (by omega)).symm | exact (hb_ol_a c33 (hb_on_2 (by omega) c96) (by omega)).symm | exact (hb_ol_b c33 (hb_on_2 (by omega) c96) (by omega)).symm | exact (hb_ol_a c33 (hb_on_3 (by omega) c96) (by omega)).symm | exact (hb_ol_b c33 (hb_on_3 (by omega) c96) (by omega)).symm)) ?_
            exact k2
        · skip
          refine aw_ldc (z := 50000) dX9_overdueOn_99 hbk_X9_231 ?_
          refine aw_goto (tg := 113) dX9_overdueOn_101 (by decide) ?_
          refine aw_ipu11 dX9_overdueOn_113 (by decide) ?_
          refine aw_ild11 dX9_overdueOn_115 ?_
          refine aw_ild7 dX9_overdueOn_117 ?_
          refine aw_icmp_ge (tg := 127) dX9_overdueOn_119 (by decide) (by first | (constructor <;> omega) | (have h8 := o1; rw [hb_on_3 (by omega) (by first | assumption | decide)] at h8; constructor <;> omega)) (by constructor <;> omega) (fun c119 => ?_) (fun c119 => ?_)
          · skip
            refine aw_ild7 dX9_overdueOn_127 ?_
            refine aw_ist7 dX9_overdueOn_129 (by decide) ?_
            refine aw_iinc8 dX9_overdueOn_131 (by decide) ?_
            refine aw_goto (tg := 16) dX9_overdueOn_134 (by decide) ?_
            refine aw_dk_9_3 ?_
            refine aw_ls (ls2 := [hb_r 47, hb_i t, hb_i k, hb_i d, hb_i m, hb_i c, hb_i (100 * d + 99), hb_i (hb_ol (hb_ol 50000 (G 56 (3 * k + 0)) d0 (hb_cj G t 0 (100 * d + 99) n) d m) (G 56 (3 * k + 1)) d1 (hb_cj G t 1 (100 * d + 99) n) d c), hb_i 2]) (congrArg (fun z => [hb_r 47, hb_i t, hb_i k, hb_i d, hb_i m, hb_i c, hb_i (100 * d + 99), hb_i z, hb_i 2]) (by first | exact (hb_ol_a c33 (hb_on_1 c87) (by omega)).symm | exact (hb_ol_b c33 (hb_on_1 c87) (by omega)).symm | exact (hb_ol_a c33 (hb_on_2 (by omega) c96) (by omega)).symm | exact (hb_ol_b c33 (hb_on_2 (by omega) c96) (by omega)).symm | exact (hb_ol_a c33 (hb_on_3 (by omega) c96) (by omega)).symm | exact (hb_ol_b c33 (hb_on_3 (by omega) c96) (by omega)).symm)) ?_
            exact k2
          · skip
            refine aw_ild11 dX9_overdueOn_122 ?_
            refine aw_goto (tg := 129) dX9_overdueOn_124 (by decide) ?_
            refine aw_ist7 dX9_overdueOn_129 (by decide) ?_
            refine aw_iinc8 dX9_overdueOn_131 (by decide) ?_
            refine aw_goto (tg := 16) dX9_overdueOn_134 (by decide) ?_
            refine aw_dk_9_3 ?_
            refine aw_ls (ls2 := [hb_r 47, hb_i t, hb_i k, hb_i d, hb_i m, hb_i c, hb_i (100 * d + 99), hb_i (hb_ol (hb_ol 50000 (G 56 (3 * k + 0)) d0 (hb_cj G t 0 (100 * d + 99) n) d m) (G 56 (3 * k + 1)) d1 (hb_cj G t 1 (100 * d + 99) n) d c), hb_i 2]) (congrArg (fun z => [hb_r 47, hb_i t, hb_i k, hb_i d, hb_i m, hb_i c, hb_i (100 * d + 99), hb_i z, hb_i 2]) (by first | exact (hb_ol_a c33 (hb_on_1 c87) (by omega)).symm | exact (hb_ol_b c33 (hb_on_1 c87) (by omega)).symm | exact (hb_ol_a c33 (hb_on_2 (by omega) c96) (by omega)).symm | exact (hb_ol_b c33 (hb_on_2 (by omega) c96) (by omega)).symm | exact (hb_ol_a c33 (hb_on_3 (by omega) c96) (by omega)).symm | exact (hb_ol_b c33 (hb_on_3 (by omega) c96) (by omega)).symm)) ?_
            exact k2
      · skip
        refine aw_ild3 dX9_overdueOn_90 ?_
        refine aw_goto (tg := 113) dX9_overdueOn_91 (by decide) ?_
        refine aw_ipu11 dX9_overdueOn_113 (by decide) ?_
        refine aw_ild11 dX9_overdueOn_115 ?_
        refine aw_ild7 dX9_overdueOn_117 ?_
        refine aw_icmp_ge (tg := 127) dX9_overdueOn_119 (by decide) (by first | (constructor <;> omega) | (have h8 := o1; rw [hb_on_3 (by omega) (by first | assumption | decide)] at h8; constructor <;> omega)) (by constructor <;> omega) (fun c119 => ?_) (fun c119 => ?_)
        · skip
          refine aw_ild7 dX9_overdueOn_127 ?_
          refine aw_ist7 dX9_overdueOn_129 (by decide) ?_
          refine aw_iinc8 dX9_overdueOn_131 (by decide) ?_
          refine aw_goto (tg := 16) dX9_overdueOn_134 (by decide) ?_
          refine aw_dk_9_3 ?_
          refine aw_ls (ls2 := [hb_r 47, hb_i t, hb_i k, hb_i d, hb_i m, hb_i c, hb_i (100 * d + 99), hb_i (hb_ol (hb_ol 50000 (G 56 (3 * k + 0)) d0 (hb_cj G t 0 (100 * d + 99) n) d m) (G 56 (3 * k + 1)) d1 (hb_cj G t 1 (100 * d + 99) n) d c), hb_i 2]) (congrArg (fun z => [hb_r 47, hb_i t, hb_i k, hb_i d, hb_i m, hb_i c, hb_i (100 * d + 99), hb_i z, hb_i 2]) (by first | exact (hb_ol_a c33 (hb_on_1 c87) (by omega)).symm | exact (hb_ol_b c33 (hb_on_1 c87) (by omega)).symm | exact (hb_ol_a c33 (hb_on_2 (by omega) c96) (by omega)).symm | exact (hb_ol_b c33 (hb_on_2 (by omega) c96) (by omega)).symm | exact (hb_ol_a c33 (hb_on_3 (by omega) c96) (by omega)).symm | exact (hb_ol_b c33 (hb_on_3 (by omega) c96) (by omega)).symm)) ?_
          exact k2
        · skip
          refine aw_ild11 dX9_overdueOn_122 ?_
          refine aw_goto (tg := 129) dX9_overdueOn_124 (by decide) ?_
          refine aw_ist7 dX9_overdueOn_129 (by decide) ?_
          refine aw_iinc8 dX9_overdueOn_131 (by decide) ?_
          refine aw_goto (tg := 16) dX9_overdueOn_134 (by decide) ?_
          refine aw_dk_9_3 ?_
          refine aw_ls (ls2 := [hb_r 47, hb_i t, hb_i k, hb_i d, hb_i m, hb_i c, hb_i (100 * d + 99), hb_i (hb_ol (hb_ol 50000 (G 56 (3 * k + 0)) d0 (hb_cj G t 0 (100 * d + 99) n) d m) (G 56 (3 * k + 1)) d1 (hb_cj G t 1 (100 * d + 99) n) d c), hb_i 2]) (congrArg (fun z => [hb_r 47, hb_i t, hb_i k, hb_i d, hb_i m, hb_i c, hb_i (100 * d + 99), hb_i z, hb_i 2]) (by first | exact (hb_ol_a c33 (hb_on_1 c87) (by omega)).symm | exact (hb_ol_b c33 (hb_on_1 c87) (by omega)).symm | exact (hb_ol_a c33 (hb_on_2 (by omega) c96) (by omega)).symm | exact (hb_ol_b c33 (hb_on_2 (by omega) c96) (by omega)).symm | exact (hb_ol_a c33 (hb_on_3 (by omega) c96) (by omega)).symm | exact (hb_ol_b c33 (hb_on_3 (by omega) c96) (by omega)).symm)) ?_
          exact k2
    · skip
      refine aw_goto (tg := 131) dX9_overdueOn_36 (by decide) ?_
      refine aw_iinc8 dX9_overdueOn_131 (by decide) ?_
      refine aw_goto (tg := 16) dX9_overdueOn_134 (by decide) ?_
      refine aw_ls (ls2 := [hb_r 47, hb_i t, hb_i k, hb_i d, hb_i m, hb_i c, hb_i (100 * d + 99), hb_i (hb_ol (hb_ol 50000 (G 56 (3 * k + 0)) d0 (hb_cj G t 0 (100 * d + 99) n) d m) (G 56 (3 * k + 1)) d1 (hb_cj G t 1 (100 * d + 99) n) d c), hb_i 2]) (congrArg (fun z => [hb_r 47, hb_i t, hb_i k, hb_i d, hb_i m, hb_i c, hb_i (100 * d + 99), hb_i z, hb_i 2]) (hb_ol_z c33).symm) ?_
      exact k2
  have k0 : hb_W l RX9 cX9_overdueOn 12 (some .int) "overdueOn" [] E z0 (hb_rm 2 0 0) σ0 (77 + na) (.inl (some (hb_i ((hb_ol (hb_ol (hb_ol 50000 (G 56 (3 * k + 0)) d0 (hb_cj G t 0 (100 * d + 99) n) d m) (G 56 (3 * k + 1)) d1 (hb_cj G t 1 (100 * d + 99) n) d c) (G 56 (3 * k + 2)) d2 (hb_cj G t 2 (100 * d + 99) n) d 1))))) (hb_w G F na) (77 + na) 0 0 16 [hb_r 47, hb_i t, hb_i k, hb_i d, hb_i m, hb_i c, hb_i (100 * d + 99), hb_i 50000, hb_i 0] [] (hb_w G F na) (77 + na) := by
    refine aw_ild8 dX9_overdueOn_16 ?_
    refine aw_iconst dX9_overdueOn_18 ?_
    refine aw_icmp_ge (tg := 137) dX9_overdueOn_19 (by decide) (by decide) (by decide) (fun c19 => absurd c19 (by decide)) (fun c19 => ?_)
    refine aw_ald0 dX9_overdueOn_22 ?_
    refine aw_getf dX9_overdueOn_23 hbf_X9_34 rfl rfl ?_
    refine aw_iconst dX9_overdueOn_26 ?_
    refine aw_ild2 dX9_overdueOn_27 ?_
    refine aw_imul dX9_overdueOn_28 ?_
    refine aw_ild8 dX9_overdueOn_29 ?_
    refine aw_iadd dX9_overdueOn_31 ?_
    refine aw_iald dX9_overdueOn_32 rfl (by constructor <;> omega) (by decide) ?_
    refine aw_if_ne (tg := 39) dX9_overdueOn_33 (by decide) (hG _ _) (fun c33 => ?_) (fun c33 => ?_)
    · skip
      refine aw_ald0 dX9_overdueOn_39 ?_
      refine aw_ild1 dX9_overdueOn_40 ?_
      refine aw_ild2 dX9_overdueOn_41 ?_
      refine aw_ild8 dX9_overdueOn_42 ?_
      refine aw_ild6 dX9_overdueOn_44 ?_
      refine aw_V4v dX9_overdueOn_46 (hD0 c33) rfl rfl hbY_X9_dueAt hbm_X9_206 hbi_X9_dueAt hbe_X9_X9_dueAt (Nat.le_of_ble_eq_true rfl) ⟨by decide, by decide⟩ (by decide) (by decide) ?_
      refine aw_ald0 dX9_overdueOn_49 ?_
      refine aw_ild1 dX9_overdueOn_50 ?_
      refine aw_ild8 dX9_overdueOn_51 ?_
      refine aw_ild6 dX9_overdueOn_53 ?_
      refine aw_V3v dX9_overdueOn_55 (c_mCounterAt0 ht ip (by omega) hn hn2 hG) rfl rfl hbY_X9_counterAt hbm_X9_192 hbi_X9_counterAt hbe_X9_X9_counterAt (Nat.le_of_ble_eq_true rfl) ⟨by decide, by decide⟩ (by decide) (by decide) ?_
      refine aw_isub dX9_overdueOn_58 ?_
      refine aw_ipu9 dX9_overdueOn_59 (by decide) ?_
      refine aw_ild8 dX9_overdueOn_61 ?_
      refine aw_if_ne (tg := 71) dX9_overdueOn_63 (by decide) (by decide) (fun c63 => absurd c63 (by decide)) (fun c63 => ?_)
      refine aw_ild4 dX9_overdueOn_66 ?_
      refine aw_goto (tg := 83) dX9_overdueOn_68 (by decide) ?_
      refine aw_ipu10 dX9_overdueOn_83 (by decide) ?_
      refine aw_ild9 dX9_overdueOn_85 ?_
      refine aw_if_ge (tg := 94) dX9_overdueOn_87 (by decide) (by constructor <;> omega) (fun c87 => ?_) (fun c87 => ?_)
      · skip
        refine aw_ild10 dX9_overdueOn_94 ?_
        refine aw_if_ne (tg := 104) dX9_overdueOn_96 (by decide) (by constructor <;> omega) (fun c96 => ?_) (fun c96 => ?_)
        · skip
          refine aw_ild3 dX9_overdueOn_104 ?_
          refine aw_ild9 dX9_overdueOn_105 ?_
          refine aw_ild10 dX9_overdueOn_107 ?_
          refine aw_idiv dX9_overdueOn_109 (by constructor <;> omega) (by constructor <;> omega) (by omega) (by omega) ?_
          refine aw_iadd dX9_overdueOn_110 ?_
          refine aw_iconst dX9_overdueOn_111 ?_
          refine aw_iadd dX9_overdueOn_112 ?_
          refine aw_ipu11 dX9_overdueOn_113 (by decide) ?_
          refine aw_ild11 dX9_overdueOn_115 ?_
          refine aw_ild7 dX9_overdueOn_117 ?_
          refine aw_icmp_ge (tg := 127) dX9_overdueOn_119 (by decide) (by first | (constructor <;> omega) | (have h8 := o0; rw [hb_on_3 (by omega) (by first | assumption | decide)] at h8; constructor <;> omega)) (by constructor <;> omega) (fun c119 => ?_) (fun c119 => ?_)
          · skip
            refine aw_ild7 dX9_overdueOn_127 ?_
            refine aw_ist7 dX9_overdueOn_129 (by decide) ?_
            refine aw_iinc8 dX9_overdueOn_131 (by decide) ?_
            refine aw_goto (tg := 16) dX9_overdueOn_134 (by decide) ?_
            refine aw_dk_9_3 ?_
            refine aw_ls (ls2 := [hb_r 47, hb_i t, hb_i k, hb_i d, hb_i m, hb_i c, hb_i (100 * d + 99), hb_i (hb_ol 50000 (G 56 (3 * k + 0)) d0 (hb_cj G t 0 (100 * d + 99) n) d m), hb_i 1]) (congrArg (fun z => [hb_r 47, hb_i t, hb_i k, hb_i d, hb_i m, hb_i c, hb_i (100 * d + 99), hb_i z, hb_i 1]) (by first | exact (hb_ol_a c33 (hb_on_1 c87) (by omega)).symm | exact (hb_ol_b c33 (hb_on_1 c87) (by omega)).symm | exact (hb_ol_a c33 (hb_on_2 (by omega) c96) (by omega)).symm | exact (hb_ol_b c33 (hb_on_2 (by omega) c96) (by omega)).symm | exact (hb_ol_a c33 (hb_on_3 (by omega) c96) (by omega)).symm | exact (hb_ol_b c33 (hb_on_3 (by omega) c96) (by omega)).symm)) ?_
            exact k1
          · skip
            refine aw_ild11 dX9_overdueOn_122 ?_
            refine aw_goto (tg := 129) dX9_overdueOn_124 (by decide) ?_
            refine aw_ist7 dX9_overdueOn_129 (by decide) ?_
            refine aw_iinc8 dX9_overdueOn_131 (by decide) ?_
            refine aw_goto (tg := 16) dX9_overdueOn_134 (by decide) ?_
            refine aw_dk_9_3 ?_
            refine aw_ls (ls2 := [hb_r 47, hb_i t, hb_i k, hb_i d, hb_i m, hb_i c, hb_i (100 * d + 99), hb_i (hb_ol 50000 (G 56 (3 * k + 0)) d0 (hb_cj G t 0 (100 * d + 99) n) d m), hb_i 1]) (congrArg (fun z => [hb_r 47, hb_i t, hb_i k, hb_i d, hb_i m, hb_i c, hb_i (100 * d + 99), hb_i z, hb_i 1]) (by first | exact (hb_ol_a c33 (hb_on_1 c87) (by omega)).symm | exact (hb_ol_b c33 (hb_on_1 c87) (by omega)).symm | exact (hb_ol_a c33 (hb_on_2 (by omega) c96) (by omega)).symm | exact (hb_ol_b c33 (hb_on_2 (by omega) c96) (by omega)).symm | exact (hb_ol_a c33 (hb_on_3 (by omega) c96) (by omega)).symm | exact (hb_ol_b c33 (hb_on_3 (by omega) c96) (by omega)).symm)) ?_
            exact k1
        · skip
          refine aw_ldc (z := 50000) dX9_overdueOn_99 hbk_X9_231 ?_
          refine aw_goto (tg := 113) dX9_overdueOn_101 (by decide) ?_
          refine aw_ipu11 dX9_overdueOn_113 (by decide) ?_
          refine aw_ild11 dX9_overdueOn_115 ?_
          refine aw_ild7 dX9_overdueOn_117 ?_
          refine aw_icmp_ge (tg := 127) dX9_overdueOn_119 (by decide) (by first | (constructor <;> omega) | (have h8 := o0; rw [hb_on_3 (by omega) (by first | assumption | decide)] at h8; constructor <;> omega)) (by constructor <;> omega) (fun c119 => ?_) (fun c119 => ?_)
          · skip
            refine aw_ild7 dX9_overdueOn_127 ?_
            refine aw_ist7 dX9_overdueOn_129 (by decide) ?_
            refine aw_iinc8 dX9_overdueOn_131 (by decide) ?_
            refine aw_goto (tg := 16) dX9_overdueOn_134 (by decide) ?_
            refine aw_dk_9_3 ?_
            refine aw_ls (ls2 := [hb_r 47, hb_i t, hb_i k, hb_i d, hb_i m, hb_i c, hb_i (100 * d + 99), hb_i (hb_ol 50000 (G 56 (3 * k + 0)) d0 (hb_cj G t 0 (100 * d + 99) n) d m), hb_i 1]) (congrArg (fun z => [hb_r 47, hb_i t, hb_i k, hb_i d, hb_i m, hb_i c, hb_i (100 * d + 99), hb_i z, hb_i 1]) (by first | exact (hb_ol_a c33 (hb_on_1 c87) (by omega)).symm | exact (hb_ol_b c33 (hb_on_1 c87) (by omega)).symm | exact (hb_ol_a c33 (hb_on_2 (by omega) c96) (by omega)).symm | exact (hb_ol_b c33 (hb_on_2 (by omega) c96) (by omega)).symm | exact (hb_ol_a c33 (hb_on_3 (by omega) c96) (by omega)).symm | exact (hb_ol_b c33 (hb_on_3 (by omega) c96) (by omega)).symm)) ?_
            exact k1
          · skip
            refine aw_ild11 dX9_overdueOn_122 ?_
            refine aw_goto (tg := 129) dX9_overdueOn_124 (by decide) ?_
            refine aw_ist7 dX9_overdueOn_129 (by decide) ?_
            refine aw_iinc8 dX9_overdueOn_131 (by decide) ?_
            refine aw_goto (tg := 16) dX9_overdueOn_134 (by decide) ?_
            refine aw_dk_9_3 ?_
            refine aw_ls (ls2 := [hb_r 47, hb_i t, hb_i k, hb_i d, hb_i m, hb_i c, hb_i (100 * d + 99), hb_i (hb_ol 50000 (G 56 (3 * k + 0)) d0 (hb_cj G t 0 (100 * d + 99) n) d m), hb_i 1]) (congrArg (fun z => [hb_r 47, hb_i t, hb_i k, hb_i d, hb_i m, hb_i c, hb_i (100 * d + 99), hb_i z, hb_i 1]) (by first | exact (hb_ol_a c33 (hb_on_1 c87) (by omega)).symm | exact (hb_ol_b c33 (hb_on_1 c87) (by omega)).symm | exact (hb_ol_a c33 (hb_on_2 (by omega) c96) (by omega)).symm | exact (hb_ol_b c33 (hb_on_2 (by omega) c96) (by omega)).symm | exact (hb_ol_a c33 (hb_on_3 (by omega) c96) (by omega)).symm | exact (hb_ol_b c33 (hb_on_3 (by omega) c96) (by omega)).symm)) ?_
            exact k1
      · skip
        refine aw_ild3 dX9_overdueOn_90 ?_
        refine aw_goto (tg := 113) dX9_overdueOn_91 (by decide) ?_
        refine aw_ipu11 dX9_overdueOn_113 (by decide) ?_
        refine aw_ild11 dX9_overdueOn_115 ?_
        refine aw_ild7 dX9_overdueOn_117 ?_
        refine aw_icmp_ge (tg := 127) dX9_overdueOn_119 (by decide) (by first | (constructor <;> omega) | (have h8 := o0; rw [hb_on_3 (by omega) (by first | assumption | decide)] at h8; constructor <;> omega)) (by constructor <;> omega) (fun c119 => ?_) (fun c119 => ?_)
        · skip
          refine aw_ild7 dX9_overdueOn_127 ?_
          refine aw_ist7 dX9_overdueOn_129 (by decide) ?_
          refine aw_iinc8 dX9_overdueOn_131 (by decide) ?_
          refine aw_goto (tg := 16) dX9_overdueOn_134 (by decide) ?_
          refine aw_dk_9_3 ?_
          refine aw_ls (ls2 := [hb_r 47, hb_i t, hb_i k, hb_i d, hb_i m, hb_i c, hb_i (100 * d + 99), hb_i (hb_ol 50000 (G 56 (3 * k + 0)) d0 (hb_cj G t 0 (100 * d + 99) n) d m), hb_i 1]) (congrArg (fun z => [hb_r 47, hb_i t, hb_i k, hb_i d, hb_i m, hb_i c, hb_i (100 * d + 99), hb_i z, hb_i 1]) (by first | exact (hb_ol_a c33 (hb_on_1 c87) (by omega)).symm | exact (hb_ol_b c33 (hb_on_1 c87) (by omega)).symm | exact (hb_ol_a c33 (hb_on_2 (by omega) c96) (by omega)).symm | exact (hb_ol_b c33 (hb_on_2 (by omega) c96) (by omega)).symm | exact (hb_ol_a c33 (hb_on_3 (by omega) c96) (by omega)).symm | exact (hb_ol_b c33 (hb_on_3 (by omega) c96) (by omega)).symm)) ?_
          exact k1
        · skip
          refine aw_ild11 dX9_overdueOn_122 ?_
          refine aw_goto (tg := 129) dX9_overdueOn_124 (by decide) ?_
          refine aw_ist7 dX9_overdueOn_129 (by decide) ?_
          refine aw_iinc8 dX9_overdueOn_131 (by decide) ?_
          refine aw_goto (tg := 16) dX9_overdueOn_134 (by decide) ?_
          refine aw_dk_9_3 ?_
          refine aw_ls (ls2 := [hb_r 47, hb_i t, hb_i k, hb_i d, hb_i m, hb_i c, hb_i (100 * d + 99), hb_i (hb_ol 50000 (G 56 (3 * k + 0)) d0 (hb_cj G t 0 (100 * d + 99) n) d m), hb_i 1]) (congrArg (fun z => [hb_r 47, hb_i t, hb_i k, hb_i d, hb_i m, hb_i c, hb_i (100 * d + 99), hb_i z, hb_i 1]) (by first | exact (hb_ol_a c33 (hb_on_1 c87) (by omega)).symm | exact (hb_ol_b c33 (hb_on_1 c87) (by omega)).symm | exact (hb_ol_a c33 (hb_on_2 (by omega) c96) (by omega)).symm | exact (hb_ol_b c33 (hb_on_2 (by omega) c96) (by omega)).symm | exact (hb_ol_a c33 (hb_on_3 (by omega) c96) (by omega)).symm | exact (hb_ol_b c33 (hb_on_3 (by omega) c96) (by omega)).symm)) ?_
          exact k1
    · skip
      refine aw_goto (tg := 131) dX9_overdueOn_36 (by decide) ?_
      refine aw_iinc8 dX9_overdueOn_131 (by decide) ?_
      refine aw_goto (tg := 16) dX9_overdueOn_134 (by decide) ?_
      refine aw_ls (ls2 := [hb_r 47, hb_i t, hb_i k, hb_i d, hb_i m, hb_i c, hb_i (100 * d + 99), hb_i (hb_ol 50000 (G 56 (3 * k + 0)) d0 (hb_cj G t 0 (100 * d + 99) n) d m), hb_i 1]) (congrArg (fun z => [hb_r 47, hb_i t, hb_i k, hb_i d, hb_i m, hb_i c, hb_i (100 * d + 99), hb_i z, hb_i 1]) (hb_ol_z c33).symm) ?_
      exact k1
  refine aw_bipush dX9_overdueOn_0 (by decide) ?_
  refine aw_ild3 dX9_overdueOn_2 ?_
  refine aw_imul dX9_overdueOn_3 ?_
  refine aw_bipush dX9_overdueOn_4 (by decide) ?_
  refine aw_iadd dX9_overdueOn_6 ?_
  refine aw_ipu6 dX9_overdueOn_7 (by decide) ?_
  refine aw_ldc (z := 50000) dX9_overdueOn_9 hbk_X9_231 ?_
  refine aw_ipu7 dX9_overdueOn_11 (by decide) ?_
  refine aw_iconst dX9_overdueOn_13 ?_
  refine aw_ipu8 dX9_overdueOn_14 (by decide) ?_
  exact k0
