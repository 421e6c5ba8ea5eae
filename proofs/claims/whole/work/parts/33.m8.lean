set_option maxRecDepth 20000 in
set_option maxHeartbeats 1000000 in
theorem c_mForecastN {l : Launch} {G : hb_G} {F : hb_F} {na : Nat} {m d a c i : Int} (im : hb_in m) (id : hb_in d) (ia : hb_in a) (ic : hb_in c) (ii : hb_in i) (hP : ¬ (hb_jm (hb_u2 G 47 0 0) m ∧ (0 ≤ d ∧ d ≤ 30000) ∧ (0 ≤ a ∧ a ≤ 1440) ∧ (0 ≤ c ∧ c ≤ 1440))) (hG : hb_rg G) : hb_M l yX9_forecast cX9_forecast 12 (some .int) 4 0 0 [hb_r 47, hb_i m, hb_i d, hb_i a, hb_i c, hb_i i] (hb_w G F na) (77 + na) (.inl (some (hb_i (-1)))) (hb_w (hb_u2 G 47 0 0) F na) (77 + na) := by
  refine hb_M_in rfl rfl (by decide) rfl (Nat.le_of_ble_eq_true rfl) ?_
  intro E z0 σ0
  have hG0 := hG
  have hG : hb_rg (hb_u2 G 47 0 0) := hG0.u2 (by decide)
  refine aw_ald0 dX9_forecast_0 ?_
  refine aw_iconst dX9_forecast_1 ?_
  refine aw_putz (jz := 0) dX9_forecast_2 hbf_X9_95 hbS_X9 (fun C T n h9 => by cases h9; exact ⟨rfl, by decide +kernel, fun h8 => by cases h8⟩) rfl rfl rfl rfl ?_
  refine aw_ald0 dX9_forecast_5 ?_
  refine aw_ild1 dX9_forecast_6 ?_
  refine aw_V1v dX9_forecast_7 (c_mIsMachine (by first | assumption | (constructor <;> omega) | exact hG _ _) hG) rfl rfl hbY_X9_isMachine hbm_X9_153 hbi_X9_isMachine hbe_X9_X9_isMachine (Nat.le_of_ble_eq_true rfl) ⟨by decide, by decide⟩ (by decide) (by decide) ?_
  refine aw_ifb_eq (tg := 43) dX9_forecast_10 (by decide) (fun c10 => ?_) (fun c10 => ?_)
  · skip
    refine aw_iconst dX9_forecast_43 ?_
    exact aw_iret dX9_forecast_44 rfl (by rfl) rfl rfl (by decide) (by decide)
  · skip
    refine aw_ild2 dX9_forecast_13 ?_
    refine aw_S1v dX9_forecast_14 (c_mIsDay (by first | assumption | (constructor <;> omega) | exact hG _ _)) hbY_X9_isDay hbm_X9_115 hbs_X9_isDay (Nat.le_of_ble_eq_true rfl) ⟨by decide, by decide⟩ (by decide) (by decide) ?_
    refine aw_ifb_eq (tg := 43) dX9_forecast_17 (by decide) (fun c17 => ?_) (fun c17 => ?_)
    · skip
      refine aw_iconst dX9_forecast_43 ?_
      exact aw_iret dX9_forecast_44 rfl (by rfl) rfl rfl (by decide) (by decide)
    · skip
      refine aw_ild3 dX9_forecast_20 ?_
      refine aw_iconst dX9_forecast_21 ?_
      refine aw_sipush dX9_forecast_22 (by decide) ?_
      refine aw_S3v dX9_forecast_25 (c_within (by first | assumption | (constructor <;> omega) | exact hG _ _) (by first | assumption | (constructor <;> omega) | exact hG _ _) (by first | assumption | (constructor <;> omega) | exact hG _ _)) hbY_X9_within hbm_X9_99 hbs_X9_within (Nat.le_of_ble_eq_true rfl) ⟨by decide, by decide⟩ (by decide) (by decide) ?_
      refine aw_ifb_eq (tg := 43) dX9_forecast_28 (by decide) (fun c28 => ?_) (fun c28 => ?_)
      · skip
        refine aw_iconst dX9_forecast_43 ?_
        exact aw_iret dX9_forecast_44 rfl (by rfl) rfl rfl (by decide) (by decide)
      · skip
        refine aw_ild4 dX9_forecast_31 ?_
        refine aw_iconst dX9_forecast_33 ?_
        refine aw_sipush dX9_forecast_34 (by decide) ?_
        refine aw_S3v dX9_forecast_37 (c_within (by first | assumption | (constructor <;> omega) | exact hG _ _) (by first | assumption | (constructor <;> omega) | exact hG _ _) (by first | assumption | (constructor <;> omega) | exact hG _ _)) hbY_X9_within hbm_X9_99 hbs_X9_within (Nat.le_of_ble_eq_true rfl) ⟨by decide, by decide⟩ (by decide) (by decide) ?_
        refine aw_ifb_ne (tg := 45) dX9_forecast_40 (by decide) (fun c40 => ?_) (fun c40 => ?_)
        · skip
          exact absurd ⟨by assumption, by assumption, by assumption, by assumption⟩ hP
        · skip
          refine aw_iconst dX9_forecast_43 ?_
          exact aw_iret dX9_forecast_44 rfl (by rfl) rfl rfl (by decide) (by decide)
/-- how many of the first j numbers are below v -/
def hb_ct (L : Int → Int) (v : Int) (j : Nat) : Int := match j with
  | 0 => 0
  | j + 1 => hb_ct L v j + (if L (j : Int) < v then 1 else 0)
theorem hb_ct_in (L : Int → Int) (v : Int) (j : Nat) : 0 ≤ hb_ct L v j ∧ hb_ct L v j ≤ j := by
  induction j with
  | zero => exact ⟨Int.le_refl _, Int.le_refl _⟩
  | succ j ih => unfold hb_ct; split <;> omega
theorem hb_ct_1 {L : Int → Int} {v : Int} {j : Nat} (h : L (j : Int) < v) : hb_ct L v (j + 1) = hb_ct L v j + 1 := by
  conv => lhs; unfold hb_ct
  rw [if_pos h]
theorem hb_ct_0 {L : Int → Int} {v : Int} {j : Nat} (h : ¬ L (j : Int) < v) : hb_ct L v (j + 1) = hb_ct L v j + 0 := by
  conv => lhs; unfold hb_ct
  rw [if_neg h]
/-- the number of which just i are less -/
def hb_fr (L : Int → Int) (N : Nat) (i : Int) (r k : Nat) : Int := match r with
  | 0 => -1
  | r + 1 => if hb_ct L (L (k : Int)) N = i then L (k : Int) else hb_fr L N i r (k + 1)
theorem hb_fr_1 {L : Int → Int} {N : Nat} {i : Int} {r k : Nat} (h : hb_ct L (L (k : Int)) N = i) : hb_fr L N i (r + 1) k = L (k : Int) := by
  conv => lhs; unfold hb_fr
  rw [if_pos h]
theorem hb_fr_0 {L : Int → Int} {N : Nat} {i : Int} {r k : Nat} (h : ¬ hb_ct L (L (k : Int)) N = i) : hb_fr L N i (r + 1) k = hb_fr L N i r (k + 1) := by
  conv => lhs; unfold hb_fr
  rw [if_neg h]
def hb_fj (G : hb_G) (m pt : Int) (n : Nat) (t k : Nat) : Prop := hb_jr G m t ∧ G 55 k ≠ -1 ∧ hb_jq G t k pt n
set_option maxRecDepth 20000 in
set_option maxHeartbeats 1000000 in
theorem c_mForecastY {l : Launch} {G : hb_G} {F : hb_F} {na : Nat} {m d a c i : Int} (im : hb_in m) (id : hb_in d) (ia : hb_in a) (ic : hb_in c) (ii : hb_in i) (hP : hb_jm (hb_u2 G 47 0 0) m ∧ (0 ≤ d ∧ d ≤ 30000) ∧ (0 ≤ a ∧ a ≤ 1440) ∧ (0 ≤ c ∧ c ≤ 1440)) {SS : Nat → hb_G} {nn : Nat → Nat} {n : Nat} (hA : hb_M l yX9_arrange cX9_arrange 3 (some .boolean) 3 0 0 [hb_r 47, hb_i (100 * d + 99)] (hb_w (hb_u2 G 47 0 0) F na) (77 + na) (.inl (some (hb_i (1)))) (hb_w (SS 0) F na) (77 + na)) (hRg : ∀ j, j ≤ 640 → hb_rg (SS j)) (hp : ∀ j, j ≤ 640 → hb_tr (SS j 71)) (hen : ∀ j, j ≤ 640 → ∀ t, 0 ≤ t ∧ t < 40 → hb_en (SS j 71) 4 t) (hn : ∀ j, j ≤ 640 → SS j 47 17 = n) (hn2 : n ≤ 200) (h0 : nn 0 = 0) (hnn : ∀ j, j ≤ 640 → nn j ≤ j) (hst : ∀ t k : Nat, t < 40 → k < 16 → (¬ hb_fj (SS (t * 16 + k)) m (100 * d + 99) n t k ∧ SS ((t * 16 + k) + 1) = SS (t * 16 + k) ∧ nn ((t * 16 + k) + 1) = nn (t * 16 + k)) ∨ (hb_fj (SS (t * 16 + k)) m (100 * d + 99) n t k ∧ ∃ on : Int, hb_in on ∧ 40000 < on ∧ hb_M l yX9_overdueOn cX9_overdueOn 12 (some .int) 2 0 0 [hb_r 47, hb_i (t : Int), hb_i (k : Int), hb_i d, hb_i a, hb_i c] (hb_w (SS (t * 16 + k)) F na) (77 + na) (.inl (some (hb_i (on)))) (hb_w (SS (t * 16 + k)) F na) (77 + na) ∧ SS ((t * 16 + k) + 1) = SS (t * 16 + k) ∧ nn ((t * 16 + k) + 1) = nn (t * 16 + k)) ∨ (hb_fj (SS (t * 16 + k)) m (100 * d + 99) n t k ∧ ∃ on : Int, (0 ≤ on ∧ on ≤ 40000) ∧ hb_M l yX9_overdueOn cX9_overdueOn 12 (some .int) 2 0 0 [hb_r 47, hb_i (t : Int), hb_i (k : Int), hb_i d, hb_i a, hb_i c] (hb_w (SS (t * 16 + k)) F na) (77 + na) (.inl (some (hb_i (on)))) (hb_w (SS (t * 16 + k)) F na) (77 + na) ∧ SS ((t * 16 + k) + 1) = hb_u2 (SS (t * 16 + k)) 75 (nn (t * 16 + k) : Int) (640 * on + 16 * (t : Int) + (k : Int)) ∧ nn ((t * 16 + k) + 1) = nn (t * 16 + k) + 1)) (hG : hb_rg G) : hb_M l yX9_forecast cX9_forecast 12 (some .int) 4 0 0 [hb_r 47, hb_i m, hb_i d, hb_i a, hb_i c, hb_i i] (hb_w G F na) (77 + na) (.inl (some (hb_i (hb_fr (SS 640 75) (nn 640) i (nn 640) 0)))) (hb_w (SS 640) F na) (77 + na) := by
  refine hb_M_in rfl rfl (by decide) rfl (Nat.le_of_ble_eq_true rfl) ?_
  intro E z0 σ0
  have hG0 := hG
  have hG : hb_rg (hb_u2 G 47 0 0) := hG0.u2 (by decide)
  have q3 : 0 ≤ d ∧ d ≤ 30000 := hP.2.1
  have ip : hb_in (100 * d + 99) := by constructor <;> omega
  have hN := hnn 640 (Nat.le_refl _)
  have hG9 := hRg 640 (Nat.le_refl _)
  have key3 : ∀ (r k : Nat), k + r = nn 640 → hb_fr (SS 640 75) (nn 640) i r k = hb_fr (SS 640 75) (nn 640) i (nn 640) 0 → hb_W l RX9 cX9_forecast 12 (some .int) "forecast" [] E z0 (hb_rm 4 0 0) σ0 (77 + na) (.inl (some (hb_i (hb_fr (SS 640 75) (nn 640) i (nn 640) 0)))) (hb_w (SS 640) F na) (77 + na) 0 0 186 [hb_r 47, hb_i m, hb_i d, hb_i a, hb_i c, hb_i i, hb_i (100 * d + 99), hb_i 1, hb_i (nn 640 : Int), hb_i (k : Int)] [] (hb_w (SS 640) F na) (77 + na) := by
    intro r
    induction r with
    | zero =>
      intro k g0 g1
      have e9 : k = nn 640 := by omega
      subst e9
      have hG := hG9
      refine aw_ild9 dX9_forecast_186 ?_
      refine aw_ild8 dX9_forecast_188 ?_
      refine aw_icmp_ge (tg := 260) dX9_forecast_190 (by decide) (by first | exact hG _ _ | assumption | (constructor <;> omega)) (by first | exact hG _ _ | assumption | (constructor <;> omega)) (fun c190 => ?_) (fun c190 => absurd c190 (by omega))
      refine aw_iconst dX9_forecast_260 ?_
      exact aw_iret dX9_forecast_261 rfl (by rw [← g1]; rfl) rfl rfl (by decide) (by decide)
    | succ r ih =>
      intro k g0 g1
      have hG := hG9
      have key4 : ∀ (q j : Nat), j + q = nn 640 → hb_W l RX9 cX9_forecast 12 (some .int) "forecast" [] E z0 (hb_rm 4 0 0) σ0 (77 + na) (.inl (some (hb_i (hb_fr (SS 640 75) (nn 640) i (nn 640) 0)))) (hb_w (SS 640) F na) (77 + na) 0 0 199 [hb_r 47, hb_i m, hb_i d, hb_i a, hb_i c, hb_i i, hb_i (100 * d + 99), hb_i 1, hb_i (nn 640 : Int), hb_i (k : Int), hb_i (hb_ct (SS 640 75) (SS 640 75 (k : Int)) j), hb_i (j : Int)] [] (hb_w (SS 640) F na) (77 + na) := by
        intro q
        induction q with
        | zero =>
          intro j e0
          have e9 : j = nn 640 := by omega
          subst e9
          have hc9 := hb_ct_in (SS 640 75) (SS 640 75 (k : Int)) (nn 640)
          refine aw_ild11 dX9_forecast_199 ?_
          refine aw_ild8 dX9_forecast_201 ?_
          refine aw_icmp_ge (tg := 239) dX9_forecast_203 (by decide) (by first | exact hG _ _ | assumption | (constructor <;> omega)) (by first | exact hG _ _ | assumption | (constructor <;> omega)) (fun c203 => ?_) (fun c203 => absurd c203 (by omega))
          refine aw_ild10 dX9_forecast_239 ?_
          refine aw_ild5 dX9_forecast_241 ?_
          refine aw_icmp_ne (tg := 254) dX9_forecast_243 (by decide) (by constructor <;> omega) ii (fun c243 => ?_) (fun c243 => ?_)
          · skip
            refine aw_iinc9 dX9_forecast_254 (by decide) ?_
            refine aw_goto (tg := 186) dX9_forecast_257 (by decide) ?_
            refine aw_dk_10_2 ?_
            exact ih (k + 1) (by omega) (by rw [← g1, hb_fr_0 c243])
          · skip
            refine aw_ald0 dX9_forecast_246 ?_
            refine aw_getf dX9_forecast_247 hbf_X9_92 rfl rfl ?_
            refine aw_ild9 dX9_forecast_250 ?_
            refine aw_iald dX9_forecast_252 rfl (by constructor <;> omega) (by decide) ?_
            exact aw_iret dX9_forecast_253 rfl (by rw [← g1, hb_fr_1 c243]) rfl rfl (by decide) (by decide)
        | succ q ih2 =>
          intro j e0
          have hc9 := hb_ct_in (SS 640 75) (SS 640 75 (k : Int)) j
          refine aw_ild11 dX9_forecast_199 ?_
          refine aw_ild8 dX9_forecast_201 ?_
          refine aw_icmp_ge (tg := 239) dX9_forecast_203 (by decide) (by first | exact hG _ _ | assumption | (constructor <;> omega)) (by first | exact hG _ _ | assumption | (constructor <;> omega)) (fun c203 => absurd c203 (by omega)) (fun c203 => ?_)
          refine aw_ild10 dX9_forecast_206 ?_
          refine aw_ald0 dX9_forecast_208 ?_
          refine aw_getf dX9_forecast_209 hbf_X9_92 rfl rfl ?_
          refine aw_ild11 dX9_forecast_212 ?_
          refine aw_iald dX9_forecast_214 rfl (by constructor <;> omega) (by decide) ?_
          refine aw_ald0 dX9_forecast_215 ?_
          refine aw_getf dX9_forecast_216 hbf_X9_92 rfl rfl ?_
          refine aw_ild9 dX9_forecast_219 ?_
          refine aw_iald dX9_forecast_221 rfl (by constructor <;> omega) (by decide) ?_
          refine aw_icmp_ge (tg := 229) dX9_forecast_222 (by decide) (hG9 _ _) (hG9 _ _) (fun c222 => ?_) (fun c222 => ?_)
          · skip
            refine aw_iconst dX9_forecast_229 ?_
            refine aw_iadd dX9_forecast_230 ?_
            refine aw_ist10 dX9_forecast_231 (by decide) ?_
            refine aw_iinc11 dX9_forecast_233 (by decide) ?_
            refine aw_goto (tg := 199) dX9_forecast_236 (by decide) ?_
            have h8 := ih2 (j + 1) (by omega)
            first | rw [hb_ct_1 (by omega)] at h8 | rw [hb_ct_0 (by omega)] at h8
            exact h8
          · skip
            refine aw_iconst dX9_forecast_225 ?_
            refine aw_goto (tg := 230) dX9_forecast_226 (by decide) ?_
            refine aw_iadd dX9_forecast_230 ?_
            refine aw_ist10 dX9_forecast_231 (by decide) ?_
            refine aw_iinc11 dX9_forecast_233 (by decide) ?_
            refine aw_goto (tg := 199) dX9_forecast_236 (by decide) ?_
            have h8 := ih2 (j + 1) (by omega)
            first | rw [hb_ct_1 (by omega)] at h8 | rw [hb_ct_0 (by omega)] at h8
            exact h8
      refine aw_ild9 dX9_forecast_186 ?_
      refine aw_ild8 dX9_forecast_188 ?_
      refine aw_icmp_ge (tg := 260) dX9_forecast_190 (by decide) (by first | exact hG _ _ | assumption | (constructor <;> omega)) (by first | exact hG _ _ | assumption | (constructor <;> omega)) (fun c190 => absurd c190 (by omega)) (fun c190 => ?_)
      refine aw_iconst dX9_forecast_193 ?_
      refine aw_ipu10 dX9_forecast_194 (by decide) ?_
      refine aw_iconst dX9_forecast_196 ?_
      refine aw_ipu11 dX9_forecast_197 (by decide) ?_
      exact key4 (nn 640) 0 (by omega)
  have key : ∀ (r t : Nat), t + r = 40 → hb_W l RX9 cX9_forecast 12 (some .int) "forecast" [] E z0 (hb_rm 4 0 0) σ0 (77 + na) (.inl (some (hb_i (hb_fr (SS 640 75) (nn 640) i (nn 640) 0)))) (hb_w (SS 640) F na) (77 + na) 0 0 68 [hb_r 47, hb_i m, hb_i d, hb_i a, hb_i c, hb_i i, hb_i (100 * d + 99), hb_i 1, hb_i (nn (t * 16) : Int), hb_i (t : Int)] [] (hb_w (SS (t * 16)) F na) (77 + na) := by
    intro r
    induction r with
    | zero =>
      intro t g0
      have e9 : t = 40 := by omega
      subst e9
      refine aw_ild9 dX9_forecast_68 ?_
      refine aw_bipush dX9_forecast_70 (by decide) ?_
      refine aw_icmp_ge (tg := 183) dX9_forecast_72 (by decide) (by first | exact hG _ _ | assumption | (constructor <;> omega)) (by first | exact hG _ _ | assumption | (constructor <;> omega)) (fun c72 => ?_) (fun c72 => absurd c72 (by omega))
      refine aw_iconst dX9_forecast_183 ?_
      refine aw_ist9 dX9_forecast_184 (by decide) ?_
      exact key3 (nn 640) 0 (by omega) rfl
    | succ r ih =>
      intro t g0
      have key2 : ∀ (q k : Nat), k + q = 16 → hb_W l RX9 cX9_forecast 12 (some .int) "forecast" [] E z0 (hb_rm 4 0 0) σ0 (77 + na) (.inl (some (hb_i (hb_fr (SS 640 75) (nn 640) i (nn 640) 0)))) (hb_w (SS 640) F na) (77 + na) 0 0 78 [hb_r 47, hb_i m, hb_i d, hb_i a, hb_i c, hb_i i, hb_i (100 * d + 99), hb_i 1, hb_i (nn (t * 16 + k) : Int), hb_i (t : Int), hb_i (k : Int)] [] (hb_w (SS (t * 16 + k)) F na) (77 + na) := by
        intro q
        induction q with
        | zero =>
          intro k e0
          have e9 : k = 16 := by omega
          subst e9
          refine aw_ild10 dX9_forecast_78 ?_
          refine aw_bipush dX9_forecast_80 (by decide) ?_
          refine aw_icmp_ge (tg := 177) dX9_forecast_82 (by decide) (by first | exact hG _ _ | assumption | (constructor <;> omega)) (by first | exact hG _ _ | assumption | (constructor <;> omega)) (fun c82 => ?_) (fun c82 => absurd c82 (by omega))
          refine aw_iinc9 dX9_forecast_177 (by decide) ?_
          refine aw_goto (tg := 68) dX9_forecast_180 (by decide) ?_
          refine aw_dk_10_1 ?_
          have h8 := ih (t + 1) (by omega)
          rw [show (t + 1) * 16 = t * 16 + 16 by omega] at h8
          exact h8
        | succ q ih2 =>
          intro k e0
          have hjl : (t * 16 + k) ≤ 640 := by omega
          have hG := hRg (t * 16 + k) hjl
          have hnj := hnn (t * 16 + k) hjl
          have h9 := ih2 (k + 1) (by omega)
          rw [show t * 16 + (k + 1) = (t * 16 + k) + 1 by omega] at h9
          rcases hst t k (by omega) (by omega) with ⟨a1, a2, a3⟩ | ⟨a1, on, a5, a6, hM, a2, a3⟩ | ⟨a1, on, a5, hM, a2, a3⟩
          · rw [a2, a3] at h9
            refine aw_ild10 dX9_forecast_78 ?_
            refine aw_bipush dX9_forecast_80 (by decide) ?_
            refine aw_icmp_ge (tg := 177) dX9_forecast_82 (by decide) (by first | exact hG _ _ | assumption | (constructor <;> omega)) (by first | exact hG _ _ | assumption | (constructor <;> omega)) (fun c82 => absurd c82 (by omega)) (fun c82 => ?_)
            refine aw_ald0 dX9_forecast_85 ?_
            refine aw_ild9 dX9_forecast_86 ?_
            refine aw_ild1 dX9_forecast_88 ?_
            refine aw_V2v dX9_forecast_89 (c_mIsOfTree (by omega) im (hp (t * 16 + k) hjl) (hen (t * 16 + k) hjl) hG) rfl rfl hbY_X9_isOfTree hbm_X9_219 hbi_X9_isOfTree hbe_X9_X9_isOfTree (Nat.le_of_ble_eq_true rfl) ⟨by decide, by decide⟩ (by decide) (by decide) ?_
            refine aw_ifb_eq (tg := 171) dX9_forecast_92 (by decide) (fun c92 => ?_) (fun c92 => ?_)
            · skip
              refine aw_iinc10 dX9_forecast_171 (by decide) ?_
              refine aw_goto (tg := 78) dX9_forecast_174 (by decide) ?_
              exact h9
            · skip
              refine aw_ald0 dX9_forecast_95 ?_
              refine aw_getf dX9_forecast_96 hbf_X9_31 rfl rfl ?_
              refine aw_ild10 dX9_forecast_99 ?_
              refine aw_iald dX9_forecast_101 rfl (by constructor <;> omega) (by decide) ?_
              refine aw_iconst dX9_forecast_102 ?_
              refine aw_icmp_eq (tg := 171) dX9_forecast_103 (by decide) (hG _ _) (by decide) (fun c103 => ?_) (fun c103 => ?_)
              · skip
                refine aw_iinc10 dX9_forecast_171 (by decide) ?_
                refine aw_goto (tg := 78) dX9_forecast_174 (by decide) ?_
                exact h9
              · skip
                refine aw_ald0 dX9_forecast_106 ?_
                refine aw_ild9 dX9_forecast_107 ?_
                refine aw_ild10 dX9_forecast_109 ?_
                refine aw_ild6 dX9_forecast_111 ?_
                refine aw_V3v dX9_forecast_113 (c_mIsAsked (by omega) (by omega) ip (hn (t * 16 + k) hjl) hn2 hG) rfl rfl hbY_X9_isAsked hbm_X9_213 hbi_X9_isAsked hbe_X9_X9_isAsked (Nat.le_of_ble_eq_true rfl) ⟨by decide, by decide⟩ (by decide) (by decide) ?_
                refine aw_ifb_ne (tg := 122) dX9_forecast_116 (by decide) (fun c116 => ?_) (fun c116 => ?_)
                · skip
                  exact absurd ⟨c92, c103, c116⟩ a1
                · skip
                  refine aw_goto (tg := 171) dX9_forecast_119 (by decide) ?_
                  refine aw_iinc10 dX9_forecast_171 (by decide) ?_
                  refine aw_goto (tg := 78) dX9_forecast_174 (by decide) ?_
                  exact h9
          · rw [a2, a3] at h9
            refine aw_ild10 dX9_forecast_78 ?_
            refine aw_bipush dX9_forecast_80 (by decide) ?_
            refine aw_icmp_ge (tg := 177) dX9_forecast_82 (by decide) (by first | exact hG _ _ | assumption | (constructor <;> omega)) (by first | exact hG _ _ | assumption | (constructor <;> omega)) (fun c82 => absurd c82 (by omega)) (fun c82 => ?_)
            refine aw_ald0 dX9_forecast_85 ?_
            refine aw_ild9 dX9_forecast_86 ?_
            refine aw_ild1 dX9_forecast_88 ?_
            refine aw_V2v dX9_forecast_89 (c_mIsOfTree (by omega) im (hp (t * 16 + k) hjl) (hen (t * 16 + k) hjl) hG) rfl rfl hbY_X9_isOfTree hbm_X9_219 hbi_X9_isOfTree hbe_X9_X9_isOfTree (Nat.le_of_ble_eq_true rfl) ⟨by decide, by decide⟩ (by decide) (by decide) ?_
            refine aw_ifb_eq (tg := 171) dX9_forecast_92 (by decide) (fun c92 => absurd c92 (by exact fun h7 => h7 a1.1)) (fun c92 => ?_)
            refine aw_ald0 dX9_forecast_95 ?_
            refine aw_getf dX9_forecast_96 hbf_X9_31 rfl rfl ?_
            refine aw_ild10 dX9_forecast_99 ?_
            refine aw_iald dX9_forecast_101 rfl (by constructor <;> omega) (by decide) ?_
            refine aw_iconst dX9_forecast_102 ?_
            refine aw_icmp_eq (tg := 171) dX9_forecast_103 (by decide) (hG _ _) (by decide) (fun c103 => absurd c103 (by exact a1.2.1)) (fun c103 => ?_)
            refine aw_ald0 dX9_forecast_106 ?_
            refine aw_ild9 dX9_forecast_107 ?_
            refine aw_ild10 dX9_forecast_109 ?_
            refine aw_ild6 dX9_forecast_111 ?_
            refine aw_V3v dX9_forecast_113 (c_mIsAsked (by omega) (by omega) ip (hn (t * 16 + k) hjl) hn2 hG) rfl rfl hbY_X9_isAsked hbm_X9_213 hbi_X9_isAsked hbe_X9_X9_isAsked (Nat.le_of_ble_eq_true rfl) ⟨by decide, by decide⟩ (by decide) (by decide) ?_
            refine aw_ifb_ne (tg := 122) dX9_forecast_116 (by decide) (fun c116 => ?_) (fun c116 => absurd c116 (by exact fun h7 => h7 a1.2.2))
            refine aw_ald0 dX9_forecast_122 ?_
            refine aw_ild9 dX9_forecast_123 ?_
            refine aw_ild10 dX9_forecast_125 ?_
            refine aw_ild2 dX9_forecast_127 ?_
            refine aw_ild3 dX9_forecast_128 ?_
            refine aw_ild4 dX9_forecast_129 ?_
            refine aw_V5v dX9_forecast_131 hM rfl rfl hbY_X9_overdueOn hbm_X9_232 hbi_X9_overdueOn hbe_X9_X9_overdueOn (Nat.le_of_ble_eq_true rfl) ⟨by decide, by decide⟩ (by decide) (by decide) ?_
            refine aw_ipu11 dX9_forecast_134 (by decide) ?_
            refine aw_ild11 dX9_forecast_136 ?_
            refine aw_ldc (z := 40000) dX9_forecast_138 hbk_X9_236 ?_
            refine aw_icmp_le (tg := 146) dX9_forecast_140 (by decide) a5 (by decide) (fun c140 => absurd c140 (by omega)) (fun c140 => ?_)
            refine aw_goto (tg := 171) dX9_forecast_143 (by decide) ?_
            refine aw_iinc10 dX9_forecast_171 (by decide) ?_
            refine aw_goto (tg := 78) dX9_forecast_174 (by decide) ?_
            refine aw_dk_11_1 ?_
            exact h9
          · rw [a2, a3] at h9
            refine aw_ild10 dX9_forecast_78 ?_
            refine aw_bipush dX9_forecast_80 (by decide) ?_
            refine aw_icmp_ge (tg := 177) dX9_forecast_82 (by decide) (by first | exact hG _ _ | assumption | (constructor <;> omega)) (by first | exact hG _ _ | assumption | (constructor <;> omega)) (fun c82 => absurd c82 (by omega)) (fun c82 => ?_)
            refine aw_ald0 dX9_forecast_85 ?_
            refine aw_ild9 dX9_forecast_86 ?_
            refine aw_ild1 dX9_forecast_88 ?_
            refine aw_V2v dX9_forecast_89 (c_mIsOfTree (by omega) im (hp (t * 16 + k) hjl) (hen (t * 16 + k) hjl) hG) rfl rfl hbY_X9_isOfTree hbm_X9_219 hbi_X9_isOfTree hbe_X9_X9_isOfTree (Nat.le_of_ble_eq_true rfl) ⟨by decide, by decide⟩ (by decide) (by decide) ?_
            refine aw_ifb_eq (tg := 171) dX9_forecast_92 (by decide) (fun c92 => absurd c92 (by exact fun h7 => h7 a1.1)) (fun c92 => ?_)
            refine aw_ald0 dX9_forecast_95 ?_
            refine aw_getf dX9_forecast_96 hbf_X9_31 rfl rfl ?_
            refine aw_ild10 dX9_forecast_99 ?_
            refine aw_iald dX9_forecast_101 rfl (by constructor <;> omega) (by decide) ?_
            refine aw_iconst dX9_forecast_102 ?_
            refine aw_icmp_eq (tg := 171) dX9_forecast_103 (by decide) (hG _ _) (by decide) (fun c103 => absurd c103 (by exact a1.2.1)) (fun c103 => ?_)
            refine aw_ald0 dX9_forecast_106 ?_
            refine aw_ild9 dX9_forecast_107 ?_
            refine aw_ild10 dX9_forecast_109 ?_
            refine aw_ild6 dX9_forecast_111 ?_
            refine aw_V3v dX9_forecast_113 (c_mIsAsked (by omega) (by omega) ip (hn (t * 16 + k) hjl) hn2 hG) rfl rfl hbY_X9_isAsked hbm_X9_213 hbi_X9_isAsked hbe_X9_X9_isAsked (Nat.le_of_ble_eq_true rfl) ⟨by decide, by decide⟩ (by decide) (by decide) ?_
            refine aw_ifb_ne (tg := 122) dX9_forecast_116 (by decide) (fun c116 => ?_) (fun c116 => absurd c116 (by exact fun h7 => h7 a1.2.2))
            refine aw_ald0 dX9_forecast_122 ?_
            refine aw_ild9 dX9_forecast_123 ?_
            refine aw_ild10 dX9_forecast_125 ?_
            refine aw_ild2 dX9_forecast_127 ?_
            refine aw_ild3 dX9_forecast_128 ?_
            refine aw_ild4 dX9_forecast_129 ?_
            refine aw_V5v dX9_forecast_131 hM rfl rfl hbY_X9_overdueOn hbm_X9_232 hbi_X9_overdueOn hbe_X9_X9_overdueOn (Nat.le_of_ble_eq_true rfl) ⟨by decide, by decide⟩ (by decide) (by decide) ?_
            refine aw_ipu11 dX9_forecast_134 (by decide) ?_
            refine aw_ild11 dX9_forecast_136 ?_
            refine aw_ldc (z := 40000) dX9_forecast_138 hbk_X9_236 ?_
            refine aw_icmp_le (tg := 146) dX9_forecast_140 (by decide) (by constructor <;> omega) (by decide) (fun c140 => ?_) (fun c140 => absurd c140 (by omega))
            refine aw_ald0 dX9_forecast_146 ?_
            refine aw_getf dX9_forecast_147 hbf_X9_92 rfl rfl ?_
            refine aw_ild8 dX9_forecast_150 ?_
            refine aw_sipush dX9_forecast_152 (by decide) ?_
            refine aw_ild11 dX9_forecast_155 ?_
            refine aw_imul dX9_forecast_157 ?_
            refine aw_bipush dX9_forecast_158 (by decide) ?_
            refine aw_ild9 dX9_forecast_160 ?_
            refine aw_imul dX9_forecast_162 ?_
            refine aw_iadd dX9_forecast_163 ?_
            refine aw_ild10 dX9_forecast_164 ?_
            refine aw_iadd dX9_forecast_166 ?_
            refine aw_iastw dX9_forecast_167 (fun _ => rfl) rfl (by constructor <;> omega) (by decide) ?_
            refine aw_iinc8 dX9_forecast_168 (by decide) ?_
            refine aw_iinc10 dX9_forecast_171 (by decide) ?_
            refine aw_goto (tg := 78) dX9_forecast_174 (by decide) ?_
            refine aw_dk_11_1 ?_
            exact h9
      refine aw_ild9 dX9_forecast_68 ?_
      refine aw_bipush dX9_forecast_70 (by decide) ?_
      refine aw_icmp_ge (tg := 183) dX9_forecast_72 (by decide) (by first | exact hG _ _ | assumption | (constructor <;> omega)) (by first | exact hG _ _ | assumption | (constructor <;> omega)) (fun c72 => absurd c72 (by omega)) (fun c72 => ?_)
      refine aw_iconst dX9_forecast_75 ?_
      refine aw_ipu10 dX9_forecast_76 (by decide) ?_
      exact key2 16 0 (by omega)
  refine aw_ald0 dX9_forecast_0 ?_
  refine aw_iconst dX9_forecast_1 ?_
  refine aw_putz (jz := 0) dX9_forecast_2 hbf_X9_95 hbS_X9 (fun C T n h9 => by cases h9; exact ⟨rfl, by decide +kernel, fun h8 => by cases h8⟩) rfl rfl rfl rfl ?_
  refine aw_ald0 dX9_forecast_5 ?_
  refine aw_ild1 dX9_forecast_6 ?_
  refine aw_V1v dX9_forecast_7 (c_mIsMachine (by first | assumption | (constructor <;> omega) | exact hG _ _) hG) rfl rfl hbY_X9_isMachine hbm_X9_153 hbi_X9_isMachine hbe_X9_X9_isMachine (Nat.le_of_ble_eq_true rfl) ⟨by decide, by decide⟩ (by decide) (by decide) ?_
  refine aw_ifb_eq (tg := 43) dX9_forecast_10 (by decide) (fun c10 => absurd c10 (by exact fun h8 => h8 hP.1)) (fun c10 => ?_)
  refine aw_ild2 dX9_forecast_13 ?_
  refine aw_S1v dX9_forecast_14 (c_mIsDay (by first | assumption | (constructor <;> omega) | exact hG _ _)) hbY_X9_isDay hbm_X9_115 hbs_X9_isDay (Nat.le_of_ble_eq_true rfl) ⟨by decide, by decide⟩ (by decide) (by decide) ?_
  refine aw_ifb_eq (tg := 43) dX9_forecast_17 (by decide) (fun c17 => absurd c17 (by exact fun h8 => h8 hP.2.1)) (fun c17 => ?_)
  refine aw_ild3 dX9_forecast_20 ?_
  refine aw_iconst dX9_forecast_21 ?_
  refine aw_sipush dX9_forecast_22 (by decide) ?_
  refine aw_S3v dX9_forecast_25 (c_within (by first | assumption | (constructor <;> omega) | exact hG _ _) (by first | assumption | (constructor <;> omega) | exact hG _ _) (by first | assumption | (constructor <;> omega) | exact hG _ _)) hbY_X9_within hbm_X9_99 hbs_X9_within (Nat.le_of_ble_eq_true rfl) ⟨by decide, by decide⟩ (by decide) (by decide) ?_
  refine aw_ifb_eq (tg := 43) dX9_forecast_28 (by decide) (fun c28 => absurd c28 (by exact fun h8 => h8 hP.2.2.1)) (fun c28 => ?_)
  refine aw_ild4 dX9_forecast_31 ?_
  refine aw_iconst dX9_forecast_33 ?_
  refine aw_sipush dX9_forecast_34 (by decide) ?_
  refine aw_S3v dX9_forecast_37 (c_within (by first | assumption | (constructor <;> omega) | exact hG _ _) (by first | assumption | (constructor <;> omega) | exact hG _ _) (by first | assumption | (constructor <;> omega) | exact hG _ _)) hbY_X9_within hbm_X9_99 hbs_X9_within (Nat.le_of_ble_eq_true rfl) ⟨by decide, by decide⟩ (by decide) (by decide) ?_
  refine aw_ifb_ne (tg := 45) dX9_forecast_40 (by decide) (fun c40 => ?_) (fun c40 => absurd c40 (by exact fun h8 => h8 hP.2.2.2))
  refine aw_bipush dX9_forecast_45 (by decide) ?_
  refine aw_ild2 dX9_forecast_47 ?_
  refine aw_imul dX9_forecast_48 ?_
  refine aw_bipush dX9_forecast_49 (by decide) ?_
  refine aw_iadd dX9_forecast_51 ?_
  refine aw_ipu6 dX9_forecast_52 (by decide) ?_
  refine aw_ald0 dX9_forecast_54 ?_
  refine aw_ild6 dX9_forecast_55 ?_
  refine aw_V1v dX9_forecast_57 hA rfl rfl hbY_X9_arrange hbm_X9_189 hbi_X9_arrange hbe_X9_X9_arrange (Nat.le_of_ble_eq_true rfl) ⟨by decide, by decide⟩ (by decide) (by decide) ?_
  refine aw_ipu7 dX9_forecast_60 (by decide) ?_
  refine aw_iconst dX9_forecast_62 ?_
  refine aw_ipu8 dX9_forecast_63 (by decide) ?_
  refine aw_iconst dX9_forecast_65 ?_
  refine aw_ipu9 dX9_forecast_66 (by decide) ?_
  have h8 := key 40 0 (by omega)
  rw [show 0 * 16 = 0 by omega, h0] at h8
  exact h8
