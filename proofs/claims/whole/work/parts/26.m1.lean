section HBZ
variable {l : Launch} {own : String} {cc : ByteArray} {nL : Nat} {ret : Option FieldType} {nm : String} {tb : List ExceptionTableEntry} {E : hb_E} {z0 : Heap} {R : Room} {σ0 : Nat → Nat} {N0 : Nat} {o : hb_O} {h' : hb_H} {N' : Nat} {kc ks pc : Nat} {ls st : List hb_V} {N : Nat} {G : hb_G} {F : hb_F} {na : Nat}
theorem aw_putz {ix ci j q : Nat} {jz : Int} {fs : List hb_V} {v : Int} (hd : decode cc pc = .ok (.putfield ix, 3)) (hf : hb_fld own ix ci j) (hs : hb_fls ci) (hw : hb_flw own ci j false .int) (hp : (Nat.ble 77 q && !(Nat.blt q (77 + na))) = false) (hc : hb_cell q (G q) (F q) = .inl (ci, fs)) (hc2 : .inl (ci, fs.set j (hb_i v)) = hb_cell q (hb_uf (G q) (j : Int) v) (F q)) (hj : (j : Int) = jz) (k : hb_W l own cc nL ret nm tb E z0 R σ0 N0 o h' N' kc ks (pc + 3) ls st (hb_w (hb_u2 G q jz v) F na) N) : hb_W l own cc nL ret nm tb E z0 R σ0 N0 o h' N' kc ks pc ls (hb_i v :: hb_r q :: st) (hb_w G F na) N := by
  subst hj
  exact aw_putw hd hf hs hw hp hc hc2 k
end HBZ
set_option maxRecDepth 20000 in
set_option maxHeartbeats 1000000 in
theorem c_mThrown {l : Launch} {G : hb_G} {F : hb_F} {na : Nat}  : hb_M l yX9_thrown cX9_thrown 1 (some .int) 0 0 0 [hb_r 47] (hb_w G F na) (77 + na) (.inl (some (hb_i (G 47 0)))) (hb_w G F na) (77 + na) := by
  refine hb_M_in rfl rfl (by decide) rfl (Nat.le_of_ble_eq_true rfl) ?_
  intro E z0 σ0
  refine aw_ald0 dX9_thrown_0 ?_
  refine aw_getf dX9_thrown_1 hbf_X9_95 rfl rfl ?_
  exact aw_iret dX9_thrown_4 rfl (by first | rfl | exact hb_oi1 (by omega) | exact hb_oi0 (by omega)) rfl rfl (by decide) (by decide)
set_option maxRecDepth 20000 in
set_option maxHeartbeats 1000000 in
theorem c_within {l : Launch} {G : hb_G} {F : hb_F} {na : Nat} {v a b : Int} (iv : hb_in v) (ia : hb_in a) (ib : hb_in b) : hb_M l yX9_within cX9_within 3 (some .boolean) 0 0 0 [hb_i v, hb_i a, hb_i b] (hb_w G F na) (77 + na) (.inl (some (hb_i (hb_b (a ≤ v ∧ v ≤ b))))) (hb_w G F na) (77 + na) := by
  refine hb_M_in rfl rfl (by decide) rfl (Nat.le_of_ble_eq_true rfl) ?_
  intro E z0 σ0
  refine aw_ild0 dX9_within_0 ?_
  refine aw_ild1 dX9_within_1 ?_
  refine aw_icmp_lt (tg := 14) dX9_within_2 (by decide) (by first | exact hG _ _ | assumption | (constructor <;> omega)) (by first | exact hG _ _ | assumption | (constructor <;> omega)) (fun c2 => ?_) (fun c2 => ?_)
  · skip
    refine aw_iconst dX9_within_14 ?_
    exact aw_zret dX9_within_15 rfl (by first | omega | exact hb_b01 _) (by first | rfl | exact hb_oi1 (by omega) | exact hb_oi0 (by omega)) rfl rfl (by decide) (by decide)
  · skip
    refine aw_ild0 dX9_within_5 ?_
    refine aw_ild2 dX9_within_6 ?_
    refine aw_icmp_gt (tg := 14) dX9_within_7 (by decide) (by first | exact hG _ _ | assumption | (constructor <;> omega)) (by first | exact hG _ _ | assumption | (constructor <;> omega)) (fun c7 => ?_) (fun c7 => ?_)
    · skip
      refine aw_iconst dX9_within_14 ?_
      exact aw_zret dX9_within_15 rfl (by first | omega | exact hb_b01 _) (by first | rfl | exact hb_oi1 (by omega) | exact hb_oi0 (by omega)) rfl rfl (by decide) (by decide)
    · skip
      refine aw_iconst dX9_within_10 ?_
      refine aw_goto (tg := 15) dX9_within_11 (by decide) ?_
      exact aw_zret dX9_within_15 rfl (by first | omega | exact hb_b01 _) (by first | rfl | exact hb_oi1 (by omega) | exact hb_oi0 (by omega)) rfl rfl (by decide) (by decide)
set_option maxRecDepth 20000 in
set_option maxHeartbeats 1000000 in
theorem c_mIsThing {l : Launch} {G : hb_G} {F : hb_F} {na : Nat} {t : Int} (it : hb_in t) (hG : hb_rg G) : hb_M l yX9_isThing cX9_isThing 2 (some .boolean) 1 0 0 [hb_r 47, hb_i t] (hb_w G F na) (77 + na) (.inl (some (hb_i (hb_b (0 ≤ t ∧ t < 40 ∧ G 51 t ≠ -1))))) (hb_w G F na) (77 + na) := by
  refine hb_M_in rfl rfl (by decide) rfl (Nat.le_of_ble_eq_true rfl) ?_
  intro E z0 σ0
  refine aw_ild1 dX9_isThing_0 ?_
  refine aw_iconst dX9_isThing_1 ?_
  refine aw_bipush dX9_isThing_2 (by decide) ?_
  refine aw_S3v dX9_isThing_4 (c_within (by first | assumption | (constructor <;> omega) | exact hG _ _) (by first | assumption | (constructor <;> omega) | exact hG _ _) (by first | assumption | (constructor <;> omega) | exact hG _ _)) hbY_X9_within hbm_X9_99 hbs_X9_within (Nat.le_of_ble_eq_true rfl) ⟨by decide, by decide⟩ (by decide) (by decide) ?_
  refine aw_ifb_eq (tg := 24) dX9_isThing_7 (by decide) (fun c7 => ?_) (fun c7 => ?_)
  · skip
    refine aw_iconst dX9_isThing_24 ?_
    exact aw_zret dX9_isThing_25 rfl (by first | omega | exact hb_b01 _) (by first | rfl | exact hb_oi1 (by omega) | exact hb_oi0 (by omega)) rfl rfl (by decide) (by decide)
  · skip
    refine aw_ald0 dX9_isThing_10 ?_
    refine aw_getf dX9_isThing_11 hbf_X9_19 rfl rfl ?_
    refine aw_ild1 dX9_isThing_14 ?_
    refine aw_iald dX9_isThing_15 rfl (by constructor <;> omega) (by decide) ?_
    refine aw_iconst dX9_isThing_16 ?_
    refine aw_icmp_eq (tg := 24) dX9_isThing_17 (by decide) (by first | exact hG _ _ | assumption | (constructor <;> omega)) (by first | exact hG _ _ | assumption | (constructor <;> omega)) (fun c17 => ?_) (fun c17 => ?_)
    · skip
      refine aw_iconst dX9_isThing_24 ?_
      exact aw_zret dX9_isThing_25 rfl (by first | omega | exact hb_b01 _) (by first | rfl | exact hb_oi1 (by omega) | exact hb_oi0 (by omega)) rfl rfl (by decide) (by decide)
    · skip
      refine aw_iconst dX9_isThing_20 ?_
      refine aw_goto (tg := 25) dX9_isThing_21 (by decide) ?_
      exact aw_zret dX9_isThing_25 rfl (by first | omega | exact hb_b01 _) (by first | rfl | exact hb_oi1 (by omega) | exact hb_oi0 (by omega)) rfl rfl (by decide) (by decide)
set_option maxRecDepth 20000 in
set_option maxHeartbeats 1000000 in
theorem c_mIsTask {l : Launch} {G : hb_G} {F : hb_F} {na : Nat} {t : Int} (it : hb_in t) (hG : hb_rg G) : hb_M l yX9_isTask cX9_isTask 2 (some .boolean) 1 0 0 [hb_r 47, hb_i t] (hb_w G F na) (77 + na) (.inl (some (hb_i (hb_b (0 ≤ t ∧ t < 16 ∧ G 55 t ≠ -1))))) (hb_w G F na) (77 + na) := by
  refine hb_M_in rfl rfl (by decide) rfl (Nat.le_of_ble_eq_true rfl) ?_
  intro E z0 σ0
  refine aw_ild1 dX9_isTask_0 ?_
  refine aw_iconst dX9_isTask_1 ?_
  refine aw_bipush dX9_isTask_2 (by decide) ?_
  refine aw_S3v dX9_isTask_4 (c_within (by first | assumption | (constructor <;> omega) | exact hG _ _) (by first | assumption | (constructor <;> omega) | exact hG _ _) (by first | assumption | (constructor <;> omega) | exact hG _ _)) hbY_X9_within hbm_X9_99 hbs_X9_within (Nat.le_of_ble_eq_true rfl) ⟨by decide, by decide⟩ (by decide) (by decide) ?_
  refine aw_ifb_eq (tg := 24) dX9_isTask_7 (by decide) (fun c7 => ?_) (fun c7 => ?_)
  · skip
    refine aw_iconst dX9_isTask_24 ?_
    exact aw_zret dX9_isTask_25 rfl (by first | omega | exact hb_b01 _) (by first | rfl | exact hb_oi1 (by omega) | exact hb_oi0 (by omega)) rfl rfl (by decide) (by decide)
  · skip
    refine aw_ald0 dX9_isTask_10 ?_
    refine aw_getf dX9_isTask_11 hbf_X9_31 rfl rfl ?_
    refine aw_ild1 dX9_isTask_14 ?_
    refine aw_iald dX9_isTask_15 rfl (by constructor <;> omega) (by decide) ?_
    refine aw_iconst dX9_isTask_16 ?_
    refine aw_icmp_eq (tg := 24) dX9_isTask_17 (by decide) (by first | exact hG _ _ | assumption | (constructor <;> omega)) (by first | exact hG _ _ | assumption | (constructor <;> omega)) (fun c17 => ?_) (fun c17 => ?_)
    · skip
      refine aw_iconst dX9_isTask_24 ?_
      exact aw_zret dX9_isTask_25 rfl (by first | omega | exact hb_b01 _) (by first | rfl | exact hb_oi1 (by omega) | exact hb_oi0 (by omega)) rfl rfl (by decide) (by decide)
    · skip
      refine aw_iconst dX9_isTask_20 ?_
      refine aw_goto (tg := 25) dX9_isTask_21 (by decide) ?_
      exact aw_zret dX9_isTask_25 rfl (by first | omega | exact hb_b01 _) (by first | rfl | exact hb_oi1 (by omega) | exact hb_oi0 (by omega)) rfl rfl (by decide) (by decide)
set_option maxRecDepth 20000 in
set_option maxHeartbeats 1000000 in
theorem c_mIsPoint {l : Launch} {G : hb_G} {F : hb_F} {na : Nat} {v : Int} (iv : hb_in v) : hb_M l yX9_isPoint cX9_isPoint 1 (some .boolean) 1 0 0 [hb_i v] (hb_w G F na) (77 + na) (.inl (some (hb_i (hb_b (0 ≤ v ∧ v ≤ 3000099))))) (hb_w G F na) (77 + na) := by
  refine hb_M_in rfl rfl (by decide) rfl (Nat.le_of_ble_eq_true rfl) ?_
  intro E z0 σ0
  refine aw_ild0 dX9_isPoint_0 ?_
  refine aw_iconst dX9_isPoint_1 ?_
  refine aw_ldc (z := 3000099) dX9_isPoint_2 hbk_X9_103 ?_
  refine aw_S3v dX9_isPoint_4 (c_within (by first | assumption | (constructor <;> omega) | exact hG _ _) (by first | assumption | (constructor <;> omega) | exact hG _ _) (by first | assumption | (constructor <;> omega) | exact hG _ _)) hbY_X9_within hbm_X9_99 hbs_X9_within (Nat.le_of_ble_eq_true rfl) ⟨by decide, by decide⟩ (by decide) (by decide) ?_
  exact aw_zret dX9_isPoint_7 rfl (by first | omega | exact hb_b01 _) (by first | rfl | exact congrArg (fun z => (Sum.inl (some (hb_i z)) : hb_O)) (hb_bc (by omega))) rfl rfl (by decide) (by decide)
set_option maxRecDepth 20000 in
set_option maxHeartbeats 1000000 in
theorem c_mIsDay {l : Launch} {G : hb_G} {F : hb_F} {na : Nat} {v : Int} (iv : hb_in v) : hb_M l yX9_isDay cX9_isDay 1 (some .boolean) 1 0 0 [hb_i v] (hb_w G F na) (77 + na) (.inl (some (hb_i (hb_b (0 ≤ v ∧ v ≤ 30000))))) (hb_w G F na) (77 + na) := by
  refine hb_M_in rfl rfl (by decide) rfl (Nat.le_of_ble_eq_true rfl) ?_
  intro E z0 σ0
  refine aw_ild0 dX9_isDay_0 ?_
  refine aw_iconst dX9_isDay_1 ?_
  refine aw_sipush dX9_isDay_2 (by decide) ?_
  refine aw_S3v dX9_isDay_5 (c_within (by first | assumption | (constructor <;> omega) | exact hG _ _) (by first | assumption | (constructor <;> omega) | exact hG _ _) (by first | assumption | (constructor <;> omega) | exact hG _ _)) hbY_X9_within hbm_X9_99 hbs_X9_within (Nat.le_of_ble_eq_true rfl) ⟨by decide, by decide⟩ (by decide) (by decide) ?_
  exact aw_zret dX9_isDay_8 rfl (by first | omega | exact hb_b01 _) (by first | rfl | exact congrArg (fun z => (Sum.inl (some (hb_i z)) : hb_O)) (hb_bc (by omega))) rfl rfl (by decide) (by decide)
set_option maxRecDepth 20000 in
set_option maxHeartbeats 1000000 in
theorem c_mIsMachineKind {l : Launch} {G : hb_G} {F : hb_F} {na : Nat} {kind : Int} (hk : hb_in kind) (hG : hb_rg G) : hb_M l yX9_isMachineKind cX9_isMachineKind 3 (some .boolean) 0 0 0 [hb_r 47, hb_i kind] (hb_w G F na) (77 + na) (.inl (some (hb_i (hb_b (¬ ∃ i, 0 ≤ i ∧ i < 48 ∧ G 48 i = kind))))) (hb_w G F na) (77 + na) := by
  refine hb_M_in rfl rfl (by decide) rfl (Nat.le_of_ble_eq_true rfl) ?_
  intro E z0 σ0
  have key : ∀ (n : Nat) (i : Int), 0 ≤ i → i ≤ 48 → 48 - i < n → (∀ j, 0 ≤ j → j < i → G 48 j ≠ kind) → hb_W l RX9 cX9_isMachineKind 3 (some .boolean) "isMachineKind" [] E z0 (hb_rm 0 0 0) σ0 (77 + na) (.inl (some (hb_i (hb_b (¬ ∃ i, 0 ≤ i ∧ i < 48 ∧ G 48 i = kind))))) (hb_w G F na) (77 + na) 0 0 2 [hb_r 47, hb_i kind, hb_i i] [] (hb_w G F na) (77 + na) := by
    intro n
    induction n with
    | zero => intro i h1 h2 h3; omega
    | succ n ih =>
      intro i h1 h2 h3 hno
      refine aw_ild2 dX9_isMachineKind_2 ?_
      refine aw_bipush dX9_isMachineKind_3 (by decide) ?_
      refine aw_icmp_ge (tg := 26) dX9_isMachineKind_5 (by decide) (by first | exact hG _ _ | assumption | (constructor <;> omega)) (by first | exact hG _ _ | assumption | (constructor <;> omega)) (fun c5 => ?_) (fun c5 => ?_)
      · skip
        refine aw_iconst dX9_isMachineKind_26 ?_
        exact aw_zret dX9_isMachineKind_27 rfl (by first | omega | exact hb_b01 _) (by first | exact hb_oi0 (fun h9 => h9 ⟨i, by omega, by omega, by omega⟩) | exact hb_oi1 (fun ⟨j, j1, j2, j3⟩ => hno j j1 (by omega) j3)) rfl rfl (by decide) (by decide)
      · skip
        refine aw_ald0 dX9_isMachineKind_8 ?_
        refine aw_getf dX9_isMachineKind_9 hbf_X9_7 rfl rfl ?_
        refine aw_ild2 dX9_isMachineKind_12 ?_
        refine aw_iald dX9_isMachineKind_13 rfl (by constructor <;> omega) (by decide) ?_
        refine aw_ild1 dX9_isMachineKind_14 ?_
        refine aw_icmp_ne (tg := 20) dX9_isMachineKind_15 (by decide) (by first | exact hG _ _ | assumption | (constructor <;> omega)) (by first | exact hG _ _ | assumption | (constructor <;> omega)) (fun c15 => ?_) (fun c15 => ?_)
        · skip
          refine aw_iinc2 dX9_isMachineKind_20 (by decide) ?_
          refine aw_goto (tg := 2) dX9_isMachineKind_23 (by decide) ?_
          exact ih (i + 1) (by omega) (by omega) (by omega) (fun j j1 j2 => by rcases (show j < i ∨ j = i by omega) with h9 | h9; exact hno j j1 h9; rw [h9]; assumption)
        · skip
          refine aw_iconst dX9_isMachineKind_18 ?_
          exact aw_zret dX9_isMachineKind_19 rfl (by first | omega | exact hb_b01 _) (by first | exact hb_oi0 (fun h9 => h9 ⟨i, by omega, by omega, by omega⟩) | exact hb_oi1 (fun ⟨j, j1, j2, j3⟩ => hno j j1 (by omega) j3)) rfl rfl (by decide) (by decide)
  refine aw_iconst dX9_isMachineKind_0 ?_
  refine aw_ipu2 dX9_isMachineKind_1 (by decide) ?_
  exact key 49 0 (by omega) (by omega) (by omega) (fun j j1 j2 => by omega)
def hb_js (G : hb_G) (t : Int) : Prop := 0 ≤ t ∧ t < 40 ∧ G 51 t ≠ -1
def hb_jm (G : hb_G) (t : Int) : Prop := hb_js G t ∧ ¬ ∃ i, 0 ≤ i ∧ i < 48 ∧ G 48 i = G 51 t
set_option maxRecDepth 20000 in
set_option maxHeartbeats 1000000 in
theorem c_mIsMachine {l : Launch} {G : hb_G} {F : hb_F} {na : Nat} {t : Int} (it : hb_in t) (hG : hb_rg G) : hb_M l yX9_isMachine cX9_isMachine 2 (some .boolean) 2 0 0 [hb_r 47, hb_i t] (hb_w G F na) (77 + na) (.inl (some (hb_i (hb_b (hb_jm G t))))) (hb_w G F na) (77 + na) := by
  refine hb_M_in rfl rfl (by decide) rfl (Nat.le_of_ble_eq_true rfl) ?_
  intro E z0 σ0
  refine aw_ald0 dX9_isMachine_0 ?_
  refine aw_ild1 dX9_isMachine_1 ?_
  refine aw_V1v dX9_isMachine_2 (c_mIsThing (by first | assumption | (constructor <;> omega) | exact hG _ _) hG) rfl rfl hbY_X9_isThing hbm_X9_104 hbi_X9_isThing hbe_X9_X9_isThing (Nat.le_of_ble_eq_true rfl) ⟨by decide, by decide⟩ (by decide) (by decide) ?_
  refine aw_ifb_eq (tg := 25) dX9_isMachine_5 (by decide) (fun c5 => ?_) (fun c5 => ?_)
  · skip
    refine aw_iconst dX9_isMachine_25 ?_
    exact aw_zret dX9_isMachine_26 rfl (by first | omega | exact hb_b01 _) (by first | exact hb_oi1 ⟨by assumption, by assumption⟩ | exact hb_oi0 (fun h9 => absurd h9.1 (by assumption)) | exact hb_oi0 (fun h9 => absurd h9.2 (by assumption))) rfl rfl (by decide) (by decide)
  · skip
    refine aw_ald0 dX9_isMachine_8 ?_
    refine aw_ald0 dX9_isMachine_9 ?_
    refine aw_getf dX9_isMachine_10 hbf_X9_19 rfl rfl ?_
    refine aw_ild1 dX9_isMachine_13 ?_
    refine aw_iald dX9_isMachine_14 rfl (by constructor <;> omega) (by decide) ?_
    refine aw_V1v dX9_isMachine_15 (c_mIsMachineKind (by first | assumption | (constructor <;> omega) | exact hG _ _) hG) rfl rfl hbY_X9_isMachineKind hbm_X9_108 hbi_X9_isMachineKind hbe_X9_X9_isMachineKind (Nat.le_of_ble_eq_true rfl) ⟨by decide, by decide⟩ (by decide) (by decide) ?_
    refine aw_ifb_eq (tg := 25) dX9_isMachine_18 (by decide) (fun c18 => ?_) (fun c18 => ?_)
    · skip
      refine aw_iconst dX9_isMachine_25 ?_
      exact aw_zret dX9_isMachine_26 rfl (by first | omega | exact hb_b01 _) (by first | exact hb_oi1 ⟨by assumption, by assumption⟩ | exact hb_oi0 (fun h9 => absurd h9.1 (by assumption)) | exact hb_oi0 (fun h9 => absurd h9.2 (by assumption))) rfl rfl (by decide) (by decide)
    · skip
      refine aw_iconst dX9_isMachine_21 ?_
      refine aw_goto (tg := 26) dX9_isMachine_22 (by decide) ?_
      exact aw_zret dX9_isMachine_26 rfl (by first | omega | exact hb_b01 _) (by first | exact hb_oi1 ⟨by assumption, by assumption⟩ | exact hb_oi0 (fun h9 => absurd h9.1 (by assumption)) | exact hb_oi0 (fun h9 => absurd h9.2 (by assumption))) rfl rfl (by decide) (by decide)
set_option maxRecDepth 20000 in
set_option maxHeartbeats 1000000 in
theorem c_mPlaceY {l : Launch} {G : hb_G} {F : hb_F} {na : Nat} {k p c : Int} (ik : hb_in k) (ip : hb_in p) (ic : hb_in c) (hP : (0 ≤ k ∧ k ≤ 11) ∧ (0 ≤ p ∧ p ≤ 3) ∧ (-1 ≤ c ∧ c ≤ 11) ∧ hb_u2 G 47 0 0 47 4 ≤ 0) (hG : hb_rg G) : hb_M l yX9_place cX9_place 4 (some .boolean) 1 0 0 [hb_r 47, hb_i k, hb_i p, hb_i c] (hb_w G F na) (77 + na) (.inl (some (hb_i (1)))) (hb_w (hb_u2 (hb_u2 G 47 0 0) 48 (4 * k + p) c) F na) (77 + na) := by
  refine hb_M_in rfl rfl (by decide) rfl (Nat.le_of_ble_eq_true rfl) ?_
  intro E z0 σ0
  have hG0 := hG
  have hG : hb_rg (hb_u2 G 47 0 0) := hG0.u2 (by decide)
  refine aw_ald0 dX9_place_0 ?_
  refine aw_iconst dX9_place_1 ?_
  refine aw_putz (jz := 0) dX9_place_2 hbf_X9_95 hbS_X9 (fun C T n h9 => by cases h9; exact ⟨rfl, by decide +kernel, fun h8 => by cases h8⟩) rfl rfl rfl rfl ?_
  refine aw_ild1 dX9_place_5 ?_
  refine aw_iconst dX9_place_6 ?_
  refine aw_bipush dX9_place_7 (by decide) ?_
  refine aw_S3v dX9_place_9 (c_within (by first | assumption | (constructor <;> omega) | exact hG _ _) (by first | assumption | (constructor <;> omega) | exact hG _ _) (by first | assumption | (constructor <;> omega) | exact hG _ _)) hbY_X9_within hbm_X9_99 hbs_X9_within (Nat.le_of_ble_eq_true rfl) ⟨by decide, by decide⟩ (by decide) (by decide) ?_
  refine aw_ifb_eq (tg := 41) dX9_place_12 (by decide) (fun c12 => ?_) (fun c12 => ?_)
  · skip
    exact absurd hP (by omega)
  · skip
    refine aw_ild2 dX9_place_15 ?_
    refine aw_iconst dX9_place_16 ?_
    refine aw_iconst dX9_place_17 ?_
    refine aw_S3v dX9_place_18 (c_within (by first | assumption | (constructor <;> omega) | exact hG _ _) (by first | assumption | (constructor <;> omega) | exact hG _ _) (by first | assumption | (constructor <;> omega) | exact hG _ _)) hbY_X9_within hbm_X9_99 hbs_X9_within (Nat.le_of_ble_eq_true rfl) ⟨by decide, by decide⟩ (by decide) (by decide) ?_
    refine aw_ifb_eq (tg := 41) dX9_place_21 (by decide) (fun c21 => ?_) (fun c21 => ?_)
    · skip
      exact absurd hP (by omega)
    · skip
      refine aw_ild3 dX9_place_24 ?_
      refine aw_iconst dX9_place_25 ?_
      refine aw_bipush dX9_place_26 (by decide) ?_
      refine aw_S3v dX9_place_28 (c_within (by first | assumption | (constructor <;> omega) | exact hG _ _) (by first | assumption | (constructor <;> omega) | exact hG _ _) (by first | assumption | (constructor <;> omega) | exact hG _ _)) hbY_X9_within hbm_X9_99 hbs_X9_within (Nat.le_of_ble_eq_true rfl) ⟨by decide, by decide⟩ (by decide) (by decide) ?_
      refine aw_ifb_eq (tg := 41) dX9_place_31 (by decide) (fun c31 => ?_) (fun c31 => ?_)
      · skip
        exact absurd hP (by omega)
      · skip
        refine aw_ald0 dX9_place_34 ?_
        refine aw_getf dX9_place_35 hbf_X9_111 rfl rfl ?_
        refine aw_if_le (tg := 43) dX9_place_38 (by decide) (by first | exact hG _ _ | assumption | (constructor <;> omega)) (fun c38 => ?_) (fun c38 => ?_)
        · skip
          refine aw_ald0 dX9_place_43 ?_
          refine aw_getf dX9_place_44 hbf_X9_7 rfl rfl ?_
          refine aw_iconst dX9_place_47 ?_
          refine aw_ild1 dX9_place_48 ?_
          refine aw_imul dX9_place_49 ?_
          refine aw_ild2 dX9_place_50 ?_
          refine aw_iadd dX9_place_51 ?_
          refine aw_ild3 dX9_place_52 ?_
          refine aw_iastw dX9_place_53 (fun _ => rfl) rfl (by constructor <;> omega) (by decide) ?_
          refine aw_iconst dX9_place_54 ?_
          exact aw_zret dX9_place_55 rfl (by first | omega | exact hb_b01 _) (by rfl) rfl rfl (by decide) (by decide)
        · skip
          exact absurd hP (by omega)
set_option maxRecDepth 20000 in
set_option maxHeartbeats 1000000 in
theorem c_mPlaceN {l : Launch} {G : hb_G} {F : hb_F} {na : Nat} {k p c : Int} (ik : hb_in k) (ip : hb_in p) (ic : hb_in c) (hP : ¬ ((0 ≤ k ∧ k ≤ 11) ∧ (0 ≤ p ∧ p ≤ 3) ∧ (-1 ≤ c ∧ c ≤ 11) ∧ hb_u2 G 47 0 0 47 4 ≤ 0)) (hG : hb_rg G) : hb_M l yX9_place cX9_place 4 (some .boolean) 1 0 0 [hb_r 47, hb_i k, hb_i p, hb_i c] (hb_w G F na) (77 + na) (.inl (some (hb_i (0)))) (hb_w (hb_u2 G 47 0 0) F na) (77 + na) := by
  refine hb_M_in rfl rfl (by decide) rfl (Nat.le_of_ble_eq_true rfl) ?_
  intro E z0 σ0
  have hG0 := hG
  have hG : hb_rg (hb_u2 G 47 0 0) := hG0.u2 (by decide)
  refine aw_ald0 dX9_place_0 ?_
  refine aw_iconst dX9_place_1 ?_
  refine aw_putz (jz := 0) dX9_place_2 hbf_X9_95 hbS_X9 (fun C T n h9 => by cases h9; exact ⟨rfl, by decide +kernel, fun h8 => by cases h8⟩) rfl rfl rfl rfl ?_
  refine aw_ild1 dX9_place_5 ?_
  refine aw_iconst dX9_place_6 ?_
  refine aw_bipush dX9_place_7 (by decide) ?_
  refine aw_S3v dX9_place_9 (c_within (by first | assumption | (constructor <;> omega) | exact hG _ _) (by first | assumption | (constructor <;> omega) | exact hG _ _) (by first | assumption | (constructor <;> omega) | exact hG _ _)) hbY_X9_within hbm_X9_99 hbs_X9_within (Nat.le_of_ble_eq_true rfl) ⟨by decide, by decide⟩ (by decide) (by decide) ?_
  refine aw_ifb_eq (tg := 41) dX9_place_12 (by decide) (fun c12 => ?_) (fun c12 => ?_)
  · skip
    refine aw_iconst dX9_place_41 ?_
    exact aw_zret dX9_place_42 rfl (by first | omega | exact hb_b01 _) (by rfl) rfl rfl (by decide) (by decide)
  · skip
    refine aw_ild2 dX9_place_15 ?_
    refine aw_iconst dX9_place_16 ?_
    refine aw_iconst dX9_place_17 ?_
    refine aw_S3v dX9_place_18 (c_within (by first | assumption | (constructor <;> omega) | exact hG _ _) (by first | assumption | (constructor <;> omega) | exact hG _ _) (by first | assumption | (constructor <;> omega) | exact hG _ _)) hbY_X9_within hbm_X9_99 hbs_X9_within (Nat.le_of_ble_eq_true rfl) ⟨by decide, by decide⟩ (by decide) (by decide) ?_
    refine aw_ifb_eq (tg := 41) dX9_place_21 (by decide) (fun c21 => ?_) (fun c21 => ?_)
    · skip
      refine aw_iconst dX9_place_41 ?_
      exact aw_zret dX9_place_42 rfl (by first | omega | exact hb_b01 _) (by rfl) rfl rfl (by decide) (by decide)
    · skip
      refine aw_ild3 dX9_place_24 ?_
      refine aw_iconst dX9_place_25 ?_
      refine aw_bipush dX9_place_26 (by decide) ?_
      refine aw_S3v dX9_place_28 (c_within (by first | assumption | (constructor <;> omega) | exact hG _ _) (by first | assumption | (constructor <;> omega) | exact hG _ _) (by first | assumption | (constructor <;> omega) | exact hG _ _)) hbY_X9_within hbm_X9_99 hbs_X9_within (Nat.le_of_ble_eq_true rfl) ⟨by decide, by decide⟩ (by decide) (by decide) ?_
      refine aw_ifb_eq (tg := 41) dX9_place_31 (by decide) (fun c31 => ?_) (fun c31 => ?_)
      · skip
        refine aw_iconst dX9_place_41 ?_
        exact aw_zret dX9_place_42 rfl (by first | omega | exact hb_b01 _) (by rfl) rfl rfl (by decide) (by decide)
      · skip
        refine aw_ald0 dX9_place_34 ?_
        refine aw_getf dX9_place_35 hbf_X9_111 rfl rfl ?_
        refine aw_if_le (tg := 43) dX9_place_38 (by decide) (by first | exact hG _ _ | assumption | (constructor <;> omega)) (fun c38 => ?_) (fun c38 => ?_)
        · skip
          exact absurd (by omega) hP
        · skip
          refine aw_iconst dX9_place_41 ?_
          exact aw_zret dX9_place_42 rfl (by first | omega | exact hb_b01 _) (by rfl) rfl rfl (by decide) (by decide)
def hb_ja (G : hb_G) (t k m c d : Int) : hb_G := hb_u2 (hb_u2 (hb_u2 (hb_u2 (hb_u2 (hb_u2 G 47 0 0) 51 t k) 52 t m) 53 t c) 54 t d) 47 4 (G 47 4 + 1)
set_option maxRecDepth 20000 in
set_option maxHeartbeats 1000000 in
theorem c_mThingY {l : Launch} {G : hb_G} {F : hb_F} {na : Nat} {t k m c d : Int} (it : hb_in t) (ik : hb_in k) (im : hb_in m) (ic : hb_in c) (id : hb_in d) (hP : (0 ≤ t ∧ t ≤ 39) ∧ hb_u2 G 47 0 0 51 t = -1 ∧ (0 ≤ k ∧ k ≤ 11) ∧ (0 ≤ m ∧ m ≤ 1000000) ∧ (0 ≤ c ∧ c ≤ 1000000) ∧ (0 ≤ d ∧ d ≤ 30000)) (hG : hb_rg G) : hb_M l yX9_thing cX9_thing 6 (some .boolean) 2 0 0 [hb_r 47, hb_i t, hb_i k, hb_i m, hb_i c, hb_i d] (hb_w G F na) (77 + na) (.inl (some (hb_i (1)))) (hb_w (hb_ja G t k m c d) F na) (77 + na) := by
  refine hb_M_in rfl rfl (by decide) rfl (Nat.le_of_ble_eq_true rfl) ?_
  intro E z0 σ0
  have hG0 := hG
  have hG : hb_rg (hb_u2 G 47 0 0) := hG0.u2 (by decide)
  refine aw_ald0 dX9_thing_0 ?_
  refine aw_iconst dX9_thing_1 ?_
  refine aw_putz (jz := 0) dX9_thing_2 hbf_X9_95 hbS_X9 (fun C T n h9 => by cases h9; exact ⟨rfl, by decide +kernel, fun h8 => by cases h8⟩) rfl rfl rfl rfl ?_
  refine aw_ild1 dX9_thing_5 ?_
  refine aw_iconst dX9_thing_6 ?_
  refine aw_bipush dX9_thing_7 (by decide) ?_
  refine aw_S3v dX9_thing_9 (c_within (by first | assumption | (constructor <;> omega) | exact hG _ _) (by first | assumption | (constructor <;> omega) | exact hG _ _) (by first | assumption | (constructor <;> omega) | exact hG _ _)) hbY_X9_within hbm_X9_99 hbs_X9_within (Nat.le_of_ble_eq_true rfl) ⟨by decide, by decide⟩ (by decide) (by decide) ?_
  refine aw_ifb_eq (tg := 64) dX9_thing_12 (by decide) (fun c12 => ?_) (fun c12 => ?_)
  · skip
    exact absurd hP (by omega)
  · skip
    refine aw_ald0 dX9_thing_15 ?_
    refine aw_getf dX9_thing_16 hbf_X9_19 rfl rfl ?_
    refine aw_ild1 dX9_thing_19 ?_
    refine aw_iald dX9_thing_20 rfl (by constructor <;> omega) (by decide) ?_
    refine aw_iconst dX9_thing_21 ?_
    refine aw_icmp_ne (tg := 64) dX9_thing_22 (by decide) (by first | exact hG _ _ | assumption | (constructor <;> omega)) (by first | exact hG _ _ | assumption | (constructor <;> omega)) (fun c22 => ?_) (fun c22 => ?_)
    · skip
      exact absurd hP (by omega)
    · skip
      refine aw_ild2 dX9_thing_25 ?_
      refine aw_iconst dX9_thing_26 ?_
      refine aw_bipush dX9_thing_27 (by decide) ?_
      refine aw_S3v dX9_thing_29 (c_within (by first | assumption | (constructor <;> omega) | exact hG _ _) (by first | assumption | (constructor <;> omega) | exact hG _ _) (by first | assumption | (constructor <;> omega) | exact hG _ _)) hbY_X9_within hbm_X9_99 hbs_X9_within (Nat.le_of_ble_eq_true rfl) ⟨by decide, by decide⟩ (by decide) (by decide) ?_
      refine aw_ifb_eq (tg := 64) dX9_thing_32 (by decide) (fun c32 => ?_) (fun c32 => ?_)
      · skip
        exact absurd hP (by omega)
      · skip
        refine aw_ild3 dX9_thing_35 ?_
        refine aw_iconst dX9_thing_36 ?_
        refine aw_ldc (z := 1000000) dX9_thing_37 hbk_X9_114 ?_
        refine aw_S3v dX9_thing_39 (c_within (by first | assumption | (constructor <;> omega) | exact hG _ _) (by first | assumption | (constructor <;> omega) | exact hG _ _) (by first | assumption | (constructor <;> omega) | exact hG _ _)) hbY_X9_within hbm_X9_99 hbs_X9_within (Nat.le_of_ble_eq_true rfl) ⟨by decide, by decide⟩ (by decide) (by decide) ?_
        refine aw_ifb_eq (tg := 64) dX9_thing_42 (by decide) (fun c42 => ?_) (fun c42 => ?_)
        · skip
          exact absurd hP (by omega)
        · skip
          refine aw_ild4 dX9_thing_45 ?_
          refine aw_iconst dX9_thing_47 ?_
          refine aw_ldc (z := 1000000) dX9_thing_48 hbk_X9_114 ?_
          refine aw_S3v dX9_thing_50 (c_within (by first | assumption | (constructor <;> omega) | exact hG _ _) (by first | assumption | (constructor <;> omega) | exact hG _ _) (by first | assumption | (constructor <;> omega) | exact hG _ _)) hbY_X9_within hbm_X9_99 hbs_X9_within (Nat.le_of_ble_eq_true rfl) ⟨by decide, by decide⟩ (by decide) (by decide) ?_
          refine aw_ifb_eq (tg := 64) dX9_thing_53 (by decide) (fun c53 => ?_) (fun c53 => ?_)
          · skip
            exact absurd hP (by omega)
          · skip
            refine aw_ild5 dX9_thing_56 ?_
            refine aw_S1v dX9_thing_58 (c_mIsDay (by first | assumption | (constructor <;> omega) | exact hG _ _)) hbY_X9_isDay hbm_X9_115 hbs_X9_isDay (Nat.le_of_ble_eq_true rfl) ⟨by decide, by decide⟩ (by decide) (by decide) ?_
            refine aw_ifb_ne (tg := 66) dX9_thing_61 (by decide) (fun c61 => ?_) (fun c61 => ?_)
            · skip
              refine aw_ald0 dX9_thing_66 ?_
              refine aw_getf dX9_thing_67 hbf_X9_19 rfl rfl ?_
              refine aw_ild1 dX9_thing_70 ?_
              refine aw_ild2 dX9_thing_71 ?_
              refine aw_iastw dX9_thing_72 (fun _ => rfl) rfl (by constructor <;> omega) (by decide) ?_
              refine aw_ald0 dX9_thing_73 ?_
              refine aw_getf dX9_thing_74 hbf_X9_22 rfl rfl ?_
              refine aw_ild1 dX9_thing_77 ?_
              refine aw_ild3 dX9_thing_78 ?_
              refine aw_iastw dX9_thing_79 (fun _ => rfl) rfl (by constructor <;> omega) (by decide) ?_
              refine aw_ald0 dX9_thing_80 ?_
              refine aw_getf dX9_thing_81 hbf_X9_25 rfl rfl ?_
              refine aw_ild1 dX9_thing_84 ?_
              refine aw_ild4 dX9_thing_85 ?_
              refine aw_iastw dX9_thing_87 (fun _ => rfl) rfl (by constructor <;> omega) (by decide) ?_
              refine aw_ald0 dX9_thing_88 ?_
              refine aw_getf dX9_thing_89 hbf_X9_28 rfl rfl ?_
              refine aw_ild1 dX9_thing_92 ?_
              refine aw_ild5 dX9_thing_93 ?_
              refine aw_iastw dX9_thing_95 (fun _ => rfl) rfl (by constructor <;> omega) (by decide) ?_
              refine aw_ald0 dX9_thing_96 ?_
              refine aw_dup dX9_thing_97 rfl ?_
              refine aw_getf dX9_thing_98 hbf_X9_111 rfl rfl ?_
              refine aw_iconst dX9_thing_101 ?_
              refine aw_iadd dX9_thing_102 ?_
              refine aw_putz (jz := 4) dX9_thing_103 hbf_X9_111 hbS_X9 (fun C T n h9 => by cases h9; exact ⟨rfl, by decide +kernel, fun h8 => by cases h8⟩) rfl rfl rfl rfl ?_
              refine aw_iconst dX9_thing_106 ?_
              exact aw_zret dX9_thing_107 rfl (by first | omega | exact hb_b01 _) (by rfl) rfl rfl (by decide) (by decide)
            · skip
              exact absurd hP (by omega)
set_option maxRecDepth 20000 in
set_option maxHeartbeats 1000000 in
theorem c_mThingN {l : Launch} {G : hb_G} {F : hb_F} {na : Nat} {t k m c d : Int} (it : hb_in t) (ik : hb_in k) (im : hb_in m) (ic : hb_in c) (id : hb_in d) (hP : ¬ ((0 ≤ t ∧ t ≤ 39) ∧ hb_u2 G 47 0 0 51 t = -1 ∧ (0 ≤ k ∧ k ≤ 11) ∧ (0 ≤ m ∧ m ≤ 1000000) ∧ (0 ≤ c ∧ c ≤ 1000000) ∧ (0 ≤ d ∧ d ≤ 30000))) (hG : hb_rg G) : hb_M l yX9_thing cX9_thing 6 (some .boolean) 2 0 0 [hb_r 47, hb_i t, hb_i k, hb_i m, hb_i c, hb_i d] (hb_w G F na) (77 + na) (.inl (some (hb_i (0)))) (hb_w (hb_u2 G 47 0 0) F na) (77 + na) := by
  refine hb_M_in rfl rfl (by decide) rfl (Nat.le_of_ble_eq_true rfl) ?_
  intro E z0 σ0
  have hG0 := hG
  have hG : hb_rg (hb_u2 G 47 0 0) := hG0.u2 (by decide)
  refine aw_ald0 dX9_thing_0 ?_
  refine aw_iconst dX9_thing_1 ?_
  refine aw_putz (jz := 0) dX9_thing_2 hbf_X9_95 hbS_X9 (fun C T n h9 => by cases h9; exact ⟨rfl, by decide +kernel, fun h8 => by cases h8⟩) rfl rfl rfl rfl ?_
  refine aw_ild1 dX9_thing_5 ?_
  refine aw_iconst dX9_thing_6 ?_
  refine aw_bipush dX9_thing_7 (by decide) ?_
  refine aw_S3v dX9_thing_9 (c_within (by first | assumption | (constructor <;> omega) | exact hG _ _) (by first | assumption | (constructor <;> omega) | exact hG _ _) (by first | assumption | (constructor <;> omega) | exact hG _ _)) hbY_X9_within hbm_X9_99 hbs_X9_within (Nat.le_of_ble_eq_true rfl) ⟨by decide, by decide⟩ (by decide) (by decide) ?_
  refine aw_ifb_eq (tg := 64) dX9_thing_12 (by decide) (fun c12 => ?_) (fun c12 => ?_)
  · skip
    refine aw_iconst dX9_thing_64 ?_
    exact aw_zret dX9_thing_65 rfl (by first | omega | exact hb_b01 _) (by rfl) rfl rfl (by decide) (by decide)
  · skip
    refine aw_ald0 dX9_thing_15 ?_
    refine aw_getf dX9_thing_16 hbf_X9_19 rfl rfl ?_
    refine aw_ild1 dX9_thing_19 ?_
    refine aw_iald dX9_thing_20 rfl (by constructor <;> omega) (by decide) ?_
    refine aw_iconst dX9_thing_21 ?_
    refine aw_icmp_ne (tg := 64) dX9_thing_22 (by decide) (by first | exact hG _ _ | assumption | (constructor <;> omega)) (by first | exact hG _ _ | assumption | (constructor <;> omega)) (fun c22 => ?_) (fun c22 => ?_)
    · skip
      refine aw_iconst dX9_thing_64 ?_
      exact aw_zret dX9_thing_65 rfl (by first | omega | exact hb_b01 _) (by rfl) rfl rfl (by decide) (by decide)
    · skip
      refine aw_ild2 dX9_thing_25 ?_
      refine aw_iconst dX9_thing_26 ?_
      refine aw_bipush dX9_thing_27 (by decide) ?_
      refine aw_S3v dX9_thing_29 (c_within (by first | assumption | (constructor <;> omega) | exact hG _ _) (by first | assumption | (constructor <;> omega) | exact hG _ _) (by first | assumption | (constructor <;> omega) | exact hG _ _)) hbY_X9_within hbm_X9_99 hbs_X9_within (Nat.le_of_ble_eq_true rfl) ⟨by decide, by decide⟩ (by decide) (by decide) ?_
      refine aw_ifb_eq (tg := 64) dX9_thing_32 (by decide) (fun c32 => ?_) (fun c32 => ?_)
      · skip
        refine aw_iconst dX9_thing_64 ?_
        exact aw_zret dX9_thing_65 rfl (by first | omega | exact hb_b01 _) (by rfl) rfl rfl (by decide) (by decide)
      · skip
        refine aw_ild3 dX9_thing_35 ?_
        refine aw_iconst dX9_thing_36 ?_
        refine aw_ldc (z := 1000000) dX9_thing_37 hbk_X9_114 ?_
        refine aw_S3v dX9_thing_39 (c_within (by first | assumption | (constructor <;> omega) | exact hG _ _) (by first | assumption | (constructor <;> omega) | exact hG _ _) (by first | assumption | (constructor <;> omega) | exact hG _ _)) hbY_X9_within hbm_X9_99 hbs_X9_within (Nat.le_of_ble_eq_true rfl) ⟨by decide, by decide⟩ (by decide) (by decide) ?_
        refine aw_ifb_eq (tg := 64) dX9_thing_42 (by decide) (fun c42 => ?_) (fun c42 => ?_)
        · skip
          refine aw_iconst dX9_thing_64 ?_
          exact aw_zret dX9_thing_65 rfl (by first | omega | exact hb_b01 _) (by rfl) rfl rfl (by decide) (by decide)
        · skip
          refine aw_ild4 dX9_thing_45 ?_
          refine aw_iconst dX9_thing_47 ?_
          refine aw_ldc (z := 1000000) dX9_thing_48 hbk_X9_114 ?_
          refine aw_S3v dX9_thing_50 (c_within (by first | assumption | (constructor <;> omega) | exact hG _ _) (by first | assumption | (constructor <;> omega) | exact hG _ _) (by first | assumption | (constructor <;> omega) | exact hG _ _)) hbY_X9_within hbm_X9_99 hbs_X9_within (Nat.le_of_ble_eq_true rfl) ⟨by decide, by decide⟩ (by decide) (by decide) ?_
          refine aw_ifb_eq (tg := 64) dX9_thing_53 (by decide) (fun c53 => ?_) (fun c53 => ?_)
          · skip
            refine aw_iconst dX9_thing_64 ?_
            exact aw_zret dX9_thing_65 rfl (by first | omega | exact hb_b01 _) (by rfl) rfl rfl (by decide) (by decide)
          · skip
            refine aw_ild5 dX9_thing_56 ?_
            refine aw_S1v dX9_thing_58 (c_mIsDay (by first | assumption | (constructor <;> omega) | exact hG _ _)) hbY_X9_isDay hbm_X9_115 hbs_X9_isDay (Nat.le_of_ble_eq_true rfl) ⟨by decide, by decide⟩ (by decide) (by decide) ?_
            refine aw_ifb_ne (tg := 66) dX9_thing_61 (by decide) (fun c61 => ?_) (fun c61 => ?_)
            · skip
              exact absurd (by omega) hP
            · skip
              refine aw_iconst dX9_thing_64 ?_
              exact aw_zret dX9_thing_65 rfl (by first | omega | exact hb_b01 _) (by rfl) rfl rfl (by decide) (by decide)
def hb_jt (G : hb_G) (t k m c w : Int) : hb_G := hb_u2 (hb_u2 (hb_u2 (hb_u2 (hb_u2 (hb_u2 G 47 0 0) 55 t k) 56 (3 * t) m) 56 (3 * t + 1) c) 56 (3 * t + 2) (w / 1000)) 57 t (w % 1000)
set_option maxRecDepth 20000 in
set_option maxHeartbeats 1000000 in
theorem c_mTaskY {l : Launch} {G : hb_G} {F : hb_F} {na : Nat} {t k m c w : Int} (it : hb_in t) (ik : hb_in k) (im : hb_in m) (ic : hb_in c) (iw : hb_in w) (hP : (0 ≤ t ∧ t ≤ 15) ∧ (0 ≤ k ∧ k ≤ 11) ∧ (0 ≤ m ∧ m ≤ 100000) ∧ (0 ≤ c ∧ c ≤ 100000) ∧ (0 ≤ w ∧ w ≤ 100000500) ∧ w % 1000 ≤ 500 ∧ (hb_u2 G 47 0 0 55 t = -1 ∨ hb_u2 G 47 0 0 55 t = k)) (hG : hb_rg G) : hb_M l yX9_task cX9_task 6 (some .boolean) 1 0 0 [hb_r 47, hb_i t, hb_i k, hb_i m, hb_i c, hb_i w] (hb_w G F na) (77 + na) (.inl (some (hb_i (1)))) (hb_w (hb_jt G t k m c w) F na) (77 + na) := by
  refine hb_M_in rfl rfl (by decide) rfl (Nat.le_of_ble_eq_true rfl) ?_
  intro E z0 σ0
  have hG0 := hG
  have hG : hb_rg (hb_u2 G 47 0 0) := hG0.u2 (by decide)
  refine aw_ald0 dX9_task_0 ?_
  refine aw_iconst dX9_task_1 ?_
  refine aw_putz (jz := 0) dX9_task_2 hbf_X9_95 hbS_X9 (fun C T n h9 => by cases h9; exact ⟨rfl, by decide +kernel, fun h8 => by cases h8⟩) rfl rfl rfl rfl ?_
  refine aw_ild1 dX9_task_5 ?_
  refine aw_iconst dX9_task_6 ?_
  refine aw_bipush dX9_task_7 (by decide) ?_
  refine aw_S3v dX9_task_9 (c_within (by first | assumption | (constructor <;> omega) | exact hG _ _) (by first | assumption | (constructor <;> omega) | exact hG _ _) (by first | assumption | (constructor <;> omega) | exact hG _ _)) hbY_X9_within hbm_X9_99 hbs_X9_within (Nat.le_of_ble_eq_true rfl) ⟨by decide, by decide⟩ (by decide) (by decide) ?_
  refine aw_ifb_eq (tg := 46) dX9_task_12 (by decide) (fun c12 => ?_) (fun c12 => ?_)
  · skip
    exact absurd hP (by omega)
  · skip
    refine aw_ild2 dX9_task_15 ?_
    refine aw_iconst dX9_task_16 ?_
    refine aw_bipush dX9_task_17 (by decide) ?_
    refine aw_S3v dX9_task_19 (c_within (by first | assumption | (constructor <;> omega) | exact hG _ _) (by first | assumption | (constructor <;> omega) | exact hG _ _) (by first | assumption | (constructor <;> omega) | exact hG _ _)) hbY_X9_within hbm_X9_99 hbs_X9_within (Nat.le_of_ble_eq_true rfl) ⟨by decide, by decide⟩ (by decide) (by decide) ?_
    refine aw_ifb_eq (tg := 46) dX9_task_22 (by decide) (fun c22 => ?_) (fun c22 => ?_)
    · skip
      exact absurd hP (by omega)
    · skip
      refine aw_ild3 dX9_task_25 ?_
      refine aw_iconst dX9_task_26 ?_
      refine aw_ldc (z := 100000) dX9_task_27 hbk_X9_118 ?_
      refine aw_S3v dX9_task_29 (c_within (by first | assumption | (constructor <;> omega) | exact hG _ _) (by first | assumption | (constructor <;> omega) | exact hG _ _) (by first | assumption | (constructor <;> omega) | exact hG _ _)) hbY_X9_within hbm_X9_99 hbs_X9_within (Nat.le_of_ble_eq_true rfl) ⟨by decide, by decide⟩ (by decide) (by decide) ?_
      refine aw_ifb_eq (tg := 46) dX9_task_32 (by decide) (fun c32 => ?_) (fun c32 => ?_)
      · skip
        exact absurd hP (by omega)
      · skip
        refine aw_ild4 dX9_task_35 ?_
        refine aw_iconst dX9_task_37 ?_
        refine aw_ldc (z := 100000) dX9_task_38 hbk_X9_118 ?_
        refine aw_S3v dX9_task_40 (c_within (by first | assumption | (constructor <;> omega) | exact hG _ _) (by first | assumption | (constructor <;> omega) | exact hG _ _) (by first | assumption | (constructor <;> omega) | exact hG _ _)) hbY_X9_within hbm_X9_99 hbs_X9_within (Nat.le_of_ble_eq_true rfl) ⟨by decide, by decide⟩ (by decide) (by decide) ?_
        refine aw_ifb_ne (tg := 48) dX9_task_43 (by decide) (fun c43 => ?_) (fun c43 => ?_)
        · skip
          refine aw_ild5 dX9_task_48 ?_
          refine aw_iconst dX9_task_50 ?_
          refine aw_ldc (z := 100000500) dX9_task_51 hbk_X9_119 ?_
          refine aw_S3v dX9_task_53 (c_within (by first | assumption | (constructor <;> omega) | exact hG _ _) (by first | assumption | (constructor <;> omega) | exact hG _ _) (by first | assumption | (constructor <;> omega) | exact hG _ _)) hbY_X9_within hbm_X9_99 hbs_X9_within (Nat.le_of_ble_eq_true rfl) ⟨by decide, by decide⟩ (by decide) (by decide) ?_
          refine aw_ifb_eq (tg := 91) dX9_task_56 (by decide) (fun c56 => ?_) (fun c56 => ?_)
          · skip
            exact absurd hP (by omega)
          · skip
            refine aw_ild5 dX9_task_59 ?_
            refine aw_sipush dX9_task_61 (by decide) ?_
            refine aw_irem dX9_task_64 (by first | exact hG _ _ | assumption | (constructor <;> omega)) (by first | exact hG _ _ | assumption | (constructor <;> omega)) (by omega) (by omega) ?_
            refine aw_sipush dX9_task_65 (by decide) ?_
            refine aw_icmp_gt (tg := 91) dX9_task_68 (by decide) (by first | exact hG _ _ | assumption | (constructor <;> omega)) (by first | exact hG _ _ | assumption | (constructor <;> omega)) (fun c68 => ?_) (fun c68 => ?_)
            · skip
              exact absurd hP (by omega)
            · skip
              refine aw_ald0 dX9_task_71 ?_
              refine aw_getf dX9_task_72 hbf_X9_31 rfl rfl ?_
              refine aw_ild1 dX9_task_75 ?_
              refine aw_iald dX9_task_76 rfl (by constructor <;> omega) (by decide) ?_
              refine aw_iconst dX9_task_77 ?_
              refine aw_icmp_eq (tg := 93) dX9_task_78 (by decide) (by first | exact hG _ _ | assumption | (constructor <;> omega)) (by first | exact hG _ _ | assumption | (constructor <;> omega)) (fun c78 => ?_) (fun c78 => ?_)
              · skip
                refine aw_ald0 dX9_task_93 ?_
                refine aw_getf dX9_task_94 hbf_X9_31 rfl rfl ?_
                refine aw_ild1 dX9_task_97 ?_
                refine aw_ild2 dX9_task_98 ?_
                refine aw_iastw dX9_task_99 (fun _ => rfl) rfl (by constructor <;> omega) (by decide) ?_
                refine aw_ald0 dX9_task_100 ?_
                refine aw_getf dX9_task_101 hbf_X9_34 rfl rfl ?_
                refine aw_iconst dX9_task_104 ?_
                refine aw_ild1 dX9_task_105 ?_
                refine aw_imul dX9_task_106 ?_
                refine aw_ild3 dX9_task_107 ?_
                refine aw_iastw dX9_task_108 (fun _ => rfl) rfl (by constructor <;> omega) (by decide) ?_
                refine aw_ald0 dX9_task_109 ?_
                refine aw_getf dX9_task_110 hbf_X9_34 rfl rfl ?_
                refine aw_iconst dX9_task_113 ?_
                refine aw_ild1 dX9_task_114 ?_
                refine aw_imul dX9_task_115 ?_
                refine aw_iconst dX9_task_116 ?_
                refine aw_iadd dX9_task_117 ?_
                refine aw_ild4 dX9_task_118 ?_
                refine aw_iastw dX9_task_120 (fun _ => rfl) rfl (by constructor <;> omega) (by decide) ?_
                refine aw_ald0 dX9_task_121 ?_
                refine aw_getf dX9_task_122 hbf_X9_34 rfl rfl ?_
                refine aw_iconst dX9_task_125 ?_
                refine aw_ild1 dX9_task_126 ?_
                refine aw_imul dX9_task_127 ?_
                refine aw_iconst dX9_task_128 ?_
                refine aw_iadd dX9_task_129 ?_
                refine aw_ild5 dX9_task_130 ?_
                refine aw_sipush dX9_task_132 (by decide) ?_
                refine aw_idiv dX9_task_135 (by first | exact hG _ _ | assumption | (constructor <;> omega)) (by first | exact hG _ _ | assumption | (constructor <;> omega)) (by omega) (by omega) ?_
                refine aw_iastw dX9_task_136 (fun _ => rfl) rfl (by constructor <;> omega) (by decide) ?_
                refine aw_ald0 dX9_task_137 ?_
                refine aw_getf dX9_task_138 hbf_X9_37 rfl rfl ?_
                refine aw_ild1 dX9_task_141 ?_
                refine aw_ild5 dX9_task_142 ?_
                refine aw_sipush dX9_task_144 (by decide) ?_
                refine aw_irem dX9_task_147 (by first | exact hG _ _ | assumption | (constructor <;> omega)) (by first | exact hG _ _ | assumption | (constructor <;> omega)) (by omega) (by omega) ?_
                refine aw_iastw dX9_task_148 (fun _ => rfl) rfl (by constructor <;> omega) (by decide) ?_
                refine aw_iconst dX9_task_149 ?_
                exact aw_zret dX9_task_150 rfl (by first | omega | exact hb_b01 _) (by rfl) rfl rfl (by decide) (by decide)
              · skip
                refine aw_ald0 dX9_task_81 ?_
                refine aw_getf dX9_task_82 hbf_X9_31 rfl rfl ?_
                refine aw_ild1 dX9_task_85 ?_
                refine aw_iald dX9_task_86 rfl (by constructor <;> omega) (by decide) ?_
                refine aw_ild2 dX9_task_87 ?_
                refine aw_icmp_eq (tg := 93) dX9_task_88 (by decide) (by first | exact hG _ _ | assumption | (constructor <;> omega)) (by first | exact hG _ _ | assumption | (constructor <;> omega)) (fun c88 => ?_) (fun c88 => ?_)
                · skip
                  refine aw_ald0 dX9_task_93 ?_
                  refine aw_getf dX9_task_94 hbf_X9_31 rfl rfl ?_
                  refine aw_ild1 dX9_task_97 ?_
                  refine aw_ild2 dX9_task_98 ?_
                  refine aw_iastw dX9_task_99 (fun _ => rfl) rfl (by constructor <;> omega) (by decide) ?_
                  refine aw_ald0 dX9_task_100 ?_
                  refine aw_getf dX9_task_101 hbf_X9_34 rfl rfl ?_
                  refine aw_iconst dX9_task_104 ?_
                  refine aw_ild1 dX9_task_105 ?_
                  refine aw_imul dX9_task_106 ?_
                  refine aw_ild3 dX9_task_107 ?_
                  refine aw_iastw dX9_task_108 (fun _ => rfl) rfl (by constructor <;> omega) (by decide) ?_
                  refine aw_ald0 dX9_task_109 ?_
                  refine aw_getf dX9_task_110 hbf_X9_34 rfl rfl ?_
                  refine aw_iconst dX9_task_113 ?_
                  refine aw_ild1 dX9_task_114 ?_
                  refine aw_imul dX9_task_115 ?_
                  refine aw_iconst dX9_task_116 ?_
                  refine aw_iadd dX9_task_117 ?_
                  refine aw_ild4 dX9_task_118 ?_
                  refine aw_iastw dX9_task_120 (fun _ => rfl) rfl (by constructor <;> omega) (by decide) ?_
                  refine aw_ald0 dX9_task_121 ?_
                  refine aw_getf dX9_task_122 hbf_X9_34 rfl rfl ?_
                  refine aw_iconst dX9_task_125 ?_
                  refine aw_ild1 dX9_task_126 ?_
                  refine aw_imul dX9_task_127 ?_
                  refine aw_iconst dX9_task_128 ?_
                  refine aw_iadd dX9_task_129 ?_
                  refine aw_ild5 dX9_task_130 ?_
                  refine aw_sipush dX9_task_132 (by decide) ?_
                  refine aw_idiv dX9_task_135 (by first | exact hG _ _ | assumption | (constructor <;> omega)) (by first | exact hG _ _ | assumption | (constructor <;> omega)) (by omega) (by omega) ?_
                  refine aw_iastw dX9_task_136 (fun _ => rfl) rfl (by constructor <;> omega) (by decide) ?_
                  refine aw_ald0 dX9_task_137 ?_
                  refine aw_getf dX9_task_138 hbf_X9_37 rfl rfl ?_
                  refine aw_ild1 dX9_task_141 ?_
                  refine aw_ild5 dX9_task_142 ?_
                  refine aw_sipush dX9_task_144 (by decide) ?_
                  refine aw_irem dX9_task_147 (by first | exact hG _ _ | assumption | (constructor <;> omega)) (by first | exact hG _ _ | assumption | (constructor <;> omega)) (by omega) (by omega) ?_
                  refine aw_iastw dX9_task_148 (fun _ => rfl) rfl (by constructor <;> omega) (by decide) ?_
                  refine aw_iconst dX9_task_149 ?_
                  exact aw_zret dX9_task_150 rfl (by first | omega | exact hb_b01 _) (by rfl) rfl rfl (by decide) (by decide)
                · skip
                  exact absurd hP (by omega)
        · skip
          exact absurd hP (by omega)
set_option maxRecDepth 20000 in
set_option maxHeartbeats 1000000 in
theorem c_mTaskN {l : Launch} {G : hb_G} {F : hb_F} {na : Nat} {t k m c w : Int} (it : hb_in t) (ik : hb_in k) (im : hb_in m) (ic : hb_in c) (iw : hb_in w) (hP : ¬ ((0 ≤ t ∧ t ≤ 15) ∧ (0 ≤ k ∧ k ≤ 11) ∧ (0 ≤ m ∧ m ≤ 100000) ∧ (0 ≤ c ∧ c ≤ 100000) ∧ (0 ≤ w ∧ w ≤ 100000500) ∧ w % 1000 ≤ 500 ∧ (hb_u2 G 47 0 0 55 t = -1 ∨ hb_u2 G 47 0 0 55 t = k))) (hG : hb_rg G) : hb_M l yX9_task cX9_task 6 (some .boolean) 1 0 0 [hb_r 47, hb_i t, hb_i k, hb_i m, hb_i c, hb_i w] (hb_w G F na) (77 + na) (.inl (some (hb_i (0)))) (hb_w (hb_u2 G 47 0 0) F na) (77 + na) := by
  refine hb_M_in rfl rfl (by decide) rfl (Nat.le_of_ble_eq_true rfl) ?_
  intro E z0 σ0
  have hG0 := hG
  have hG : hb_rg (hb_u2 G 47 0 0) := hG0.u2 (by decide)
  refine aw_ald0 dX9_task_0 ?_
  refine aw_iconst dX9_task_1 ?_
  refine aw_putz (jz := 0) dX9_task_2 hbf_X9_95 hbS_X9 (fun C T n h9 => by cases h9; exact ⟨rfl, by decide +kernel, fun h8 => by cases h8⟩) rfl rfl rfl rfl ?_
  refine aw_ild1 dX9_task_5 ?_
  refine aw_iconst dX9_task_6 ?_
  refine aw_bipush dX9_task_7 (by decide) ?_
  refine aw_S3v dX9_task_9 (c_within (by first | assumption | (constructor <;> omega) | exact hG _ _) (by first | assumption | (constructor <;> omega) | exact hG _ _) (by first | assumption | (constructor <;> omega) | exact hG _ _)) hbY_X9_within hbm_X9_99 hbs_X9_within (Nat.le_of_ble_eq_true rfl) ⟨by decide, by decide⟩ (by decide) (by decide) ?_
  refine aw_ifb_eq (tg := 46) dX9_task_12 (by decide) (fun c12 => ?_) (fun c12 => ?_)
  · skip
    refine aw_iconst dX9_task_46 ?_
    exact aw_zret dX9_task_47 rfl (by first | omega | exact hb_b01 _) (by rfl) rfl rfl (by decide) (by decide)
  · skip
    refine aw_ild2 dX9_task_15 ?_
    refine aw_iconst dX9_task_16 ?_
    refine aw_bipush dX9_task_17 (by decide) ?_
    refine aw_S3v dX9_task_19 (c_within (by first | assumption | (constructor <;> omega) | exact hG _ _) (by first | assumption | (constructor <;> omega) | exact hG _ _) (by first | assumption | (constructor <;> omega) | exact hG _ _)) hbY_X9_within hbm_X9_99 hbs_X9_within (Nat.le_of_ble_eq_true rfl) ⟨by decide, by decide⟩ (by decide) (by decide) ?_
    refine aw_ifb_eq (tg := 46) dX9_task_22 (by decide) (fun c22 => ?_) (fun c22 => ?_)
    · skip
      refine aw_iconst dX9_task_46 ?_
      exact aw_zret dX9_task_47 rfl (by first | omega | exact hb_b01 _) (by rfl) rfl rfl (by decide) (by decide)
    · skip
      refine aw_ild3 dX9_task_25 ?_
      refine aw_iconst dX9_task_26 ?_
      refine aw_ldc (z := 100000) dX9_task_27 hbk_X9_118 ?_
      refine aw_S3v dX9_task_29 (c_within (by first | assumption | (constructor <;> omega) | exact hG _ _) (by first | assumption | (constructor <;> omega) | exact hG _ _) (by first | assumption | (constructor <;> omega) | exact hG _ _)) hbY_X9_within hbm_X9_99 hbs_X9_within (Nat.le_of_ble_eq_true rfl) ⟨by decide, by decide⟩ (by decide) (by decide) ?_
      refine aw_ifb_eq (tg := 46) dX9_task_32 (by decide) (fun c32 => ?_) (fun c32 => ?_)
      · skip
        refine aw_iconst dX9_task_46 ?_
        exact aw_zret dX9_task_47 rfl (by first | omega | exact hb_b01 _) (by rfl) rfl rfl (by decide) (by decide)
      · skip
        refine aw_ild4 dX9_task_35 ?_
        refine aw_iconst dX9_task_37 ?_
        refine aw_ldc (z := 100000) dX9_task_38 hbk_X9_118 ?_
        refine aw_S3v dX9_task_40 (c_within (by first | assumption | (constructor <;> omega) | exact hG _ _) (by first | assumption | (constructor <;> omega) | exact hG _ _) (by first | assumption | (constructor <;> omega) | exact hG _ _)) hbY_X9_within hbm_X9_99 hbs_X9_within (Nat.le_of_ble_eq_true rfl) ⟨by decide, by decide⟩ (by decide) (by decide) ?_
        refine aw_ifb_ne (tg := 48) dX9_task_43 (by decide) (fun c43 => ?_) (fun c43 => ?_)
        · skip
          refine aw_ild5 dX9_task_48 ?_
          refine aw_iconst dX9_task_50 ?_
          refine aw_ldc (z := 100000500) dX9_task_51 hbk_X9_119 ?_
          refine aw_S3v dX9_task_53 (c_within (by first | assumption | (constructor <;> omega) | exact hG _ _) (by first | assumption | (constructor <;> omega) | exact hG _ _) (by first | assumption | (constructor <;> omega) | exact hG _ _)) hbY_X9_within hbm_X9_99 hbs_X9_within (Nat.le_of_ble_eq_true rfl) ⟨by decide, by decide⟩ (by decide) (by decide) ?_
          refine aw_ifb_eq (tg := 91) dX9_task_56 (by decide) (fun c56 => ?_) (fun c56 => ?_)
          · skip
            refine aw_iconst dX9_task_91 ?_
            exact aw_zret dX9_task_92 rfl (by first | omega | exact hb_b01 _) (by rfl) rfl rfl (by decide) (by decide)
          · skip
            refine aw_ild5 dX9_task_59 ?_
            refine aw_sipush dX9_task_61 (by decide) ?_
            refine aw_irem dX9_task_64 (by first | exact hG _ _ | assumption | (constructor <;> omega)) (by first | exact hG _ _ | assumption | (constructor <;> omega)) (by omega) (by omega) ?_
            refine aw_sipush dX9_task_65 (by decide) ?_
            refine aw_icmp_gt (tg := 91) dX9_task_68 (by decide) (by first | exact hG _ _ | assumption | (constructor <;> omega)) (by first | exact hG _ _ | assumption | (constructor <;> omega)) (fun c68 => ?_) (fun c68 => ?_)
            · skip
              refine aw_iconst dX9_task_91 ?_
              exact aw_zret dX9_task_92 rfl (by first | omega | exact hb_b01 _) (by rfl) rfl rfl (by decide) (by decide)
            · skip
              refine aw_ald0 dX9_task_71 ?_
              refine aw_getf dX9_task_72 hbf_X9_31 rfl rfl ?_
              refine aw_ild1 dX9_task_75 ?_
              refine aw_iald dX9_task_76 rfl (by constructor <;> omega) (by decide) ?_
              refine aw_iconst dX9_task_77 ?_
              refine aw_icmp_eq (tg := 93) dX9_task_78 (by decide) (by first | exact hG _ _ | assumption | (constructor <;> omega)) (by first | exact hG _ _ | assumption | (constructor <;> omega)) (fun c78 => ?_) (fun c78 => ?_)
              · skip
                exact absurd (by omega) hP
              · skip
                refine aw_ald0 dX9_task_81 ?_
                refine aw_getf dX9_task_82 hbf_X9_31 rfl rfl ?_
                refine aw_ild1 dX9_task_85 ?_
                refine aw_iald dX9_task_86 rfl (by constructor <;> omega) (by decide) ?_
                refine aw_ild2 dX9_task_87 ?_
                refine aw_icmp_eq (tg := 93) dX9_task_88 (by decide) (by first | exact hG _ _ | assumption | (constructor <;> omega)) (by first | exact hG _ _ | assumption | (constructor <;> omega)) (fun c88 => ?_) (fun c88 => ?_)
                · skip
                  exact absurd (by omega) hP
                · skip
                  refine aw_iconst dX9_task_91 ?_
                  exact aw_zret dX9_task_92 rfl (by first | omega | exact hb_b01 _) (by rfl) rfl rfl (by decide) (by decide)
        · skip
          refine aw_iconst dX9_task_46 ?_
          exact aw_zret dX9_task_47 rfl (by first | omega | exact hb_b01 _) (by rfl) rfl rfl (by decide) (by decide)
def hb_jo (G : hb_G) (q k s t r : Int) : hb_G := hb_u2 (hb_u2 (hb_u2 (hb_u2 (hb_u2 (hb_u2 G 47 0 0) 58 q k) 59 q (s / 40)) 60 q (s % 40)) 61 q t) 62 q r
set_option maxRecDepth 20000 in
set_option maxHeartbeats 1000000 in
theorem c_mOrderY {l : Launch} {G : hb_G} {F : hb_F} {na : Nat} {q k s t r : Int} (iq : hb_in q) (ik : hb_in k) (is : hb_in s) (it : hb_in t) (ir : hb_in r) (hP : (0 ≤ q ∧ q ≤ 7) ∧ (0 ≤ k ∧ k ≤ 11) ∧ (0 ≤ s ∧ s ≤ 1599) ∧ s / 40 ≤ s % 40 ∧ (0 ≤ t ∧ t < 16 ∧ hb_u2 G 47 0 0 55 t ≠ -1) ∧ (r = -1 ∨ (0 ≤ r ∧ r < 16 ∧ hb_u2 G 47 0 0 55 r ≠ -1))) (hG : hb_rg G) : hb_M l yX9_order cX9_order 6 (some .boolean) 2 0 0 [hb_r 47, hb_i q, hb_i k, hb_i s, hb_i t, hb_i r] (hb_w G F na) (77 + na) (.inl (some (hb_i (1)))) (hb_w (hb_jo G q k s t r) F na) (77 + na) := by
  refine hb_M_in rfl rfl (by decide) rfl (Nat.le_of_ble_eq_true rfl) ?_
  intro E z0 σ0
  have hG0 := hG
  have hG : hb_rg (hb_u2 G 47 0 0) := hG0.u2 (by decide)
  refine aw_ald0 dX9_order_0 ?_
  refine aw_iconst dX9_order_1 ?_
  refine aw_putz (jz := 0) dX9_order_2 hbf_X9_95 hbS_X9 (fun C T n h9 => by cases h9; exact ⟨rfl, by decide +kernel, fun h8 => by cases h8⟩) rfl rfl rfl rfl ?_
  refine aw_ild1 dX9_order_5 ?_
  refine aw_iconst dX9_order_6 ?_
  refine aw_bipush dX9_order_7 (by decide) ?_
  refine aw_S3v dX9_order_9 (c_within (by first | assumption | (constructor <;> omega) | exact hG _ _) (by first | assumption | (constructor <;> omega) | exact hG _ _) (by first | assumption | (constructor <;> omega) | exact hG _ _)) hbY_X9_within hbm_X9_99 hbs_X9_within (Nat.le_of_ble_eq_true rfl) ⟨by decide, by decide⟩ (by decide) (by decide) ?_
  refine aw_ifb_eq (tg := 47) dX9_order_12 (by decide) (fun c12 => ?_) (fun c12 => ?_)
  · skip
    exact absurd hP (by omega)
  · skip
    refine aw_ild2 dX9_order_15 ?_
    refine aw_iconst dX9_order_16 ?_
    refine aw_bipush dX9_order_17 (by decide) ?_
    refine aw_S3v dX9_order_19 (c_within (by first | assumption | (constructor <;> omega) | exact hG _ _) (by first | assumption | (constructor <;> omega) | exact hG _ _) (by first | assumption | (constructor <;> omega) | exact hG _ _)) hbY_X9_within hbm_X9_99 hbs_X9_within (Nat.le_of_ble_eq_true rfl) ⟨by decide, by decide⟩ (by decide) (by decide) ?_
    refine aw_ifb_eq (tg := 47) dX9_order_22 (by decide) (fun c22 => ?_) (fun c22 => ?_)
    · skip
      exact absurd hP (by omega)
    · skip
      refine aw_ild3 dX9_order_25 ?_
      refine aw_iconst dX9_order_26 ?_
      refine aw_sipush dX9_order_27 (by decide) ?_
      refine aw_S3v dX9_order_30 (c_within (by first | assumption | (constructor <;> omega) | exact hG _ _) (by first | assumption | (constructor <;> omega) | exact hG _ _) (by first | assumption | (constructor <;> omega) | exact hG _ _)) hbY_X9_within hbm_X9_99 hbs_X9_within (Nat.le_of_ble_eq_true rfl) ⟨by decide, by decide⟩ (by decide) (by decide) ?_
      refine aw_ifb_eq (tg := 47) dX9_order_33 (by decide) (fun c33 => ?_) (fun c33 => ?_)
      · skip
        exact absurd hP (by omega)
      · skip
        refine aw_ild3 dX9_order_36 ?_
        refine aw_bipush dX9_order_37 (by decide) ?_
        refine aw_idiv dX9_order_39 (by first | exact hG _ _ | assumption | (constructor <;> omega)) (by first | exact hG _ _ | assumption | (constructor <;> omega)) (by omega) (by omega) ?_
        refine aw_ild3 dX9_order_40 ?_
        refine aw_bipush dX9_order_41 (by decide) ?_
        refine aw_irem dX9_order_43 (by first | exact hG _ _ | assumption | (constructor <;> omega)) (by first | exact hG _ _ | assumption | (constructor <;> omega)) (by omega) (by omega) ?_
        refine aw_icmp_le (tg := 49) dX9_order_44 (by decide) (by first | exact hG _ _ | assumption | (constructor <;> omega)) (by first | exact hG _ _ | assumption | (constructor <;> omega)) (fun c44 => ?_) (fun c44 => ?_)
        · skip
          refine aw_ald0 dX9_order_49 ?_
          refine aw_ild4 dX9_order_50 ?_
          refine aw_V1v dX9_order_52 (c_mIsTask (by first | assumption | (constructor <;> omega) | exact hG _ _) hG) rfl rfl hbY_X9_isTask hbm_X9_120 hbi_X9_isTask hbe_X9_X9_isTask (Nat.le_of_ble_eq_true rfl) ⟨by decide, by decide⟩ (by decide) (by decide) ?_
          refine aw_ifb_eq (tg := 73) dX9_order_55 (by decide) (fun c55 => ?_) (fun c55 => ?_)
          · skip
            exact absurd hP (by omega)
          · skip
            refine aw_ild5 dX9_order_58 ?_
            refine aw_iconst dX9_order_60 ?_
            refine aw_icmp_eq (tg := 75) dX9_order_61 (by decide) (by first | exact hG _ _ | assumption | (constructor <;> omega)) (by first | exact hG _ _ | assumption | (constructor <;> omega)) (fun c61 => ?_) (fun c61 => ?_)
            · skip
              refine aw_ald0 dX9_order_75 ?_
              refine aw_getf dX9_order_76 hbf_X9_40 rfl rfl ?_
              refine aw_ild1 dX9_order_79 ?_
              refine aw_ild2 dX9_order_80 ?_
              refine aw_iastw dX9_order_81 (fun _ => rfl) rfl (by constructor <;> omega) (by decide) ?_
              refine aw_ald0 dX9_order_82 ?_
              refine aw_getf dX9_order_83 hbf_X9_43 rfl rfl ?_
              refine aw_ild1 dX9_order_86 ?_
              refine aw_ild3 dX9_order_87 ?_
              refine aw_bipush dX9_order_88 (by decide) ?_
              refine aw_idiv dX9_order_90 (by first | exact hG _ _ | assumption | (constructor <;> omega)) (by first | exact hG _ _ | assumption | (constructor <;> omega)) (by omega) (by omega) ?_
              refine aw_iastw dX9_order_91 (fun _ => rfl) rfl (by constructor <;> omega) (by decide) ?_
              refine aw_ald0 dX9_order_92 ?_
              refine aw_getf dX9_order_93 hbf_X9_46 rfl rfl ?_
              refine aw_ild1 dX9_order_96 ?_
              refine aw_ild3 dX9_order_97 ?_
              refine aw_bipush dX9_order_98 (by decide) ?_
              refine aw_irem dX9_order_100 (by first | exact hG _ _ | assumption | (constructor <;> omega)) (by first | exact hG _ _ | assumption | (constructor <;> omega)) (by omega) (by omega) ?_
              refine aw_iastw dX9_order_101 (fun _ => rfl) rfl (by constructor <;> omega) (by decide) ?_
              refine aw_ald0 dX9_order_102 ?_
              refine aw_getf dX9_order_103 hbf_X9_49 rfl rfl ?_
              refine aw_ild1 dX9_order_106 ?_
              refine aw_ild4 dX9_order_107 ?_
              refine aw_iastw dX9_order_109 (fun _ => rfl) rfl (by constructor <;> omega) (by decide) ?_
              refine aw_ald0 dX9_order_110 ?_
              refine aw_getf dX9_order_111 hbf_X9_52 rfl rfl ?_
              refine aw_ild1 dX9_order_114 ?_
              refine aw_ild5 dX9_order_115 ?_
              refine aw_iastw dX9_order_117 (fun _ => rfl) rfl (by constructor <;> omega) (by decide) ?_
              refine aw_iconst dX9_order_118 ?_
              exact aw_zret dX9_order_119 rfl (by first | omega | exact hb_b01 _) (by rfl) rfl rfl (by decide) (by decide)
            · skip
              refine aw_ald0 dX9_order_64 ?_
              refine aw_ild5 dX9_order_65 ?_
              refine aw_V1v dX9_order_67 (c_mIsTask (by first | assumption | (constructor <;> omega) | exact hG _ _) hG) rfl rfl hbY_X9_isTask hbm_X9_120 hbi_X9_isTask hbe_X9_X9_isTask (Nat.le_of_ble_eq_true rfl) ⟨by decide, by decide⟩ (by decide) (by decide) ?_
              refine aw_ifb_ne (tg := 75) dX9_order_70 (by decide) (fun c70 => ?_) (fun c70 => ?_)
              · skip
                refine aw_ald0 dX9_order_75 ?_
                refine aw_getf dX9_order_76 hbf_X9_40 rfl rfl ?_
                refine aw_ild1 dX9_order_79 ?_
                refine aw_ild2 dX9_order_80 ?_
                refine aw_iastw dX9_order_81 (fun _ => rfl) rfl (by constructor <;> omega) (by decide) ?_
                refine aw_ald0 dX9_order_82 ?_
                refine aw_getf dX9_order_83 hbf_X9_43 rfl rfl ?_
                refine aw_ild1 dX9_order_86 ?_
                refine aw_ild3 dX9_order_87 ?_
                refine aw_bipush dX9_order_88 (by decide) ?_
                refine aw_idiv dX9_order_90 (by first | exact hG _ _ | assumption | (constructor <;> omega)) (by first | exact hG _ _ | assumption | (constructor <;> omega)) (by omega) (by omega) ?_
                refine aw_iastw dX9_order_91 (fun _ => rfl) rfl (by constructor <;> omega) (by decide) ?_
                refine aw_ald0 dX9_order_92 ?_
                refine aw_getf dX9_order_93 hbf_X9_46 rfl rfl ?_
                refine aw_ild1 dX9_order_96 ?_
                refine aw_ild3 dX9_order_97 ?_
                refine aw_bipush dX9_order_98 (by decide) ?_
                refine aw_irem dX9_order_100 (by first | exact hG _ _ | assumption | (constructor <;> omega)) (by first | exact hG _ _ | assumption | (constructor <;> omega)) (by omega) (by omega) ?_
                refine aw_iastw dX9_order_101 (fun _ => rfl) rfl (by constructor <;> omega) (by decide) ?_
                refine aw_ald0 dX9_order_102 ?_
                refine aw_getf dX9_order_103 hbf_X9_49 rfl rfl ?_
                refine aw_ild1 dX9_order_106 ?_
                refine aw_ild4 dX9_order_107 ?_
                refine aw_iastw dX9_order_109 (fun _ => rfl) rfl (by constructor <;> omega) (by decide) ?_
                refine aw_ald0 dX9_order_110 ?_
                refine aw_getf dX9_order_111 hbf_X9_52 rfl rfl ?_
                refine aw_ild1 dX9_order_114 ?_
                refine aw_ild5 dX9_order_115 ?_
                refine aw_iastw dX9_order_117 (fun _ => rfl) rfl (by constructor <;> omega) (by decide) ?_
                refine aw_iconst dX9_order_118 ?_
                exact aw_zret dX9_order_119 rfl (by first | omega | exact hb_b01 _) (by rfl) rfl rfl (by decide) (by decide)
              · skip
                exact absurd hP (by omega)
        · skip
          exact absurd hP (by omega)
set_option maxRecDepth 20000 in
set_option maxHeartbeats 1000000 in
theorem c_mOrderN {l : Launch} {G : hb_G} {F : hb_F} {na : Nat} {q k s t r : Int} (iq : hb_in q) (ik : hb_in k) (is : hb_in s) (it : hb_in t) (ir : hb_in r) (hP : ¬ ((0 ≤ q ∧ q ≤ 7) ∧ (0 ≤ k ∧ k ≤ 11) ∧ (0 ≤ s ∧ s ≤ 1599) ∧ s / 40 ≤ s % 40 ∧ (0 ≤ t ∧ t < 16 ∧ hb_u2 G 47 0 0 55 t ≠ -1) ∧ (r = -1 ∨ (0 ≤ r ∧ r < 16 ∧ hb_u2 G 47 0 0 55 r ≠ -1)))) (hG : hb_rg G) : hb_M l yX9_order cX9_order 6 (some .boolean) 2 0 0 [hb_r 47, hb_i q, hb_i k, hb_i s, hb_i t, hb_i r] (hb_w G F na) (77 + na) (.inl (some (hb_i (0)))) (hb_w (hb_u2 G 47 0 0) F na) (77 + na) := by
  refine hb_M_in rfl rfl (by decide) rfl (Nat.le_of_ble_eq_true rfl) ?_
  intro E z0 σ0
  have hG0 := hG
  have hG : hb_rg (hb_u2 G 47 0 0) := hG0.u2 (by decide)
  refine aw_ald0 dX9_order_0 ?_
  refine aw_iconst dX9_order_1 ?_
  refine aw_putz (jz := 0) dX9_order_2 hbf_X9_95 hbS_X9 (fun C T n h9 => by cases h9; exact ⟨rfl, by decide +kernel, fun h8 => by cases h8⟩) rfl rfl rfl rfl ?_
  refine aw_ild1 dX9_order_5 ?_
  refine aw_iconst dX9_order_6 ?_
  refine aw_bipush dX9_order_7 (by decide) ?_
  refine aw_S3v dX9_order_9 (c_within (by first | assumption | (constructor <;> omega) | exact hG _ _) (by first | assumption | (constructor <;> omega) | exact hG _ _) (by first | assumption | (constructor <;> omega) | exact hG _ _)) hbY_X9_within hbm_X9_99 hbs_X9_within (Nat.le_of_ble_eq_true rfl) ⟨by decide, by decide⟩ (by decide) (by decide) ?_
  refine aw_ifb_eq (tg := 47) dX9_order_12 (by decide) (fun c12 => ?_) (fun c12 => ?_)
  · skip
    refine aw_iconst dX9_order_47 ?_
    exact aw_zret dX9_order_48 rfl (by first | omega | exact hb_b01 _) (by rfl) rfl rfl (by decide) (by decide)
  · skip
    refine aw_ild2 dX9_order_15 ?_
    refine aw_iconst dX9_order_16 ?_
    refine aw_bipush dX9_order_17 (by decide) ?_
    refine aw_S3v dX9_order_19 (c_within (by first | assumption | (constructor <;> omega) | exact hG _ _) (by first | assumption | (constructor <;> omega) | exact hG _ _) (by first | assumption | (constructor <;> omega) | exact hG _ _)) hbY_X9_within hbm_X9_99 hbs_X9_within (Nat.le_of_ble_eq_true rfl) ⟨by decide, by decide⟩ (by decide) (by decide) ?_
    refine aw_ifb_eq (tg := 47) dX9_order_22 (by decide) (fun c22 => ?_) (fun c22 => ?_)
    · skip
      refine aw_iconst dX9_order_47 ?_
      exact aw_zret dX9_order_48 rfl (by first | omega | exact hb_b01 _) (by rfl) rfl rfl (by decide) (by decide)
    · skip
      refine aw_ild3 dX9_order_25 ?_
      refine aw_iconst dX9_order_26 ?_
      refine aw_sipush dX9_order_27 (by decide) ?_
      refine aw_S3v dX9_order_30 (c_within (by first | assumption | (constructor <;> omega) | exact hG _ _) (by first | assumption | (constructor <;> omega) | exact hG _ _) (by first | assumption | (constructor <;> omega) | exact hG _ _)) hbY_X9_within hbm_X9_99 hbs_X9_within (Nat.le_of_ble_eq_true rfl) ⟨by decide, by decide⟩ (by decide) (by decide) ?_
      refine aw_ifb_eq (tg := 47) dX9_order_33 (by decide) (fun c33 => ?_) (fun c33 => ?_)
      · skip
        refine aw_iconst dX9_order_47 ?_
        exact aw_zret dX9_order_48 rfl (by first | omega | exact hb_b01 _) (by rfl) rfl rfl (by decide) (by decide)
      · skip
        refine aw_ild3 dX9_order_36 ?_
        refine aw_bipush dX9_order_37 (by decide) ?_
        refine aw_idiv dX9_order_39 (by first | exact hG _ _ | assumption | (constructor <;> omega)) (by first | exact hG _ _ | assumption | (constructor <;> omega)) (by omega) (by omega) ?_
        refine aw_ild3 dX9_order_40 ?_
        refine aw_bipush dX9_order_41 (by decide) ?_
        refine aw_irem dX9_order_43 (by first | exact hG _ _ | assumption | (constructor <;> omega)) (by first | exact hG _ _ | assumption | (constructor <;> omega)) (by omega) (by omega) ?_
        refine aw_icmp_le (tg := 49) dX9_order_44 (by decide) (by first | exact hG _ _ | assumption | (constructor <;> omega)) (by first | exact hG _ _ | assumption | (constructor <;> omega)) (fun c44 => ?_) (fun c44 => ?_)
        · skip
          refine aw_ald0 dX9_order_49 ?_
          refine aw_ild4 dX9_order_50 ?_
          refine aw_V1v dX9_order_52 (c_mIsTask (by first | assumption | (constructor <;> omega) | exact hG _ _) hG) rfl rfl hbY_X9_isTask hbm_X9_120 hbi_X9_isTask hbe_X9_X9_isTask (Nat.le_of_ble_eq_true rfl) ⟨by decide, by decide⟩ (by decide) (by decide) ?_
          refine aw_ifb_eq (tg := 73) dX9_order_55 (by decide) (fun c55 => ?_) (fun c55 => ?_)
          · skip
            refine aw_iconst dX9_order_73 ?_
            exact aw_zret dX9_order_74 rfl (by first | omega | exact hb_b01 _) (by rfl) rfl rfl (by decide) (by decide)
          · skip
            refine aw_ild5 dX9_order_58 ?_
            refine aw_iconst dX9_order_60 ?_
            refine aw_icmp_eq (tg := 75) dX9_order_61 (by decide) (by first | exact hG _ _ | assumption | (constructor <;> omega)) (by first | exact hG _ _ | assumption | (constructor <;> omega)) (fun c61 => ?_) (fun c61 => ?_)
            · skip
              exact absurd (by omega) hP
            · skip
              refine aw_ald0 dX9_order_64 ?_
              refine aw_ild5 dX9_order_65 ?_
              refine aw_V1v dX9_order_67 (c_mIsTask (by first | assumption | (constructor <;> omega) | exact hG _ _) hG) rfl rfl hbY_X9_isTask hbm_X9_120 hbi_X9_isTask hbe_X9_X9_isTask (Nat.le_of_ble_eq_true rfl) ⟨by decide, by decide⟩ (by decide) (by decide) ?_
              refine aw_ifb_ne (tg := 75) dX9_order_70 (by decide) (fun c70 => ?_) (fun c70 => ?_)
              · skip
                exact absurd (by omega) hP
              · skip
                refine aw_iconst dX9_order_73 ?_
                exact aw_zret dX9_order_74 rfl (by first | omega | exact hb_b01 _) (by rfl) rfl rfl (by decide) (by decide)
        · skip
          refine aw_iconst dX9_order_47 ?_
          exact aw_zret dX9_order_48 rfl (by first | omega | exact hb_b01 _) (by rfl) rfl rfl (by decide) (by decide)
set_option maxRecDepth 20000 in
set_option maxHeartbeats 1000000 in
theorem c_mLifeY {l : Launch} {G : hb_G} {F : hb_F} {na : Nat} {k m c : Int} (ik : hb_in k) (im : hb_in m) (ic : hb_in c) (hP : (0 ≤ k ∧ k ≤ 11) ∧ (0 ≤ m ∧ m ≤ 1000000) ∧ (0 ≤ c ∧ c ≤ 1000000)) (hG : hb_rg G) : hb_M l yX9_life cX9_life 4 (some .boolean) 1 0 0 [hb_r 47, hb_i k, hb_i m, hb_i c] (hb_w G F na) (77 + na) (.inl (some (hb_i (1)))) (hb_w (hb_u2 (hb_u2 (hb_u2 G 47 0 0) 49 k m) 50 k c) F na) (77 + na) := by
  refine hb_M_in rfl rfl (by decide) rfl (Nat.le_of_ble_eq_true rfl) ?_
  intro E z0 σ0
  have hG0 := hG
  have hG : hb_rg (hb_u2 G 47 0 0) := hG0.u2 (by decide)
  refine aw_ald0 dX9_life_0 ?_
  refine aw_iconst dX9_life_1 ?_
  refine aw_putz (jz := 0) dX9_life_2 hbf_X9_95 hbS_X9 (fun C T n h9 => by cases h9; exact ⟨rfl, by decide +kernel, fun h8 => by cases h8⟩) rfl rfl rfl rfl ?_
  refine aw_ild1 dX9_life_5 ?_
  refine aw_iconst dX9_life_6 ?_
  refine aw_bipush dX9_life_7 (by decide) ?_
  refine aw_S3v dX9_life_9 (c_within (by first | assumption | (constructor <;> omega) | exact hG _ _) (by first | assumption | (constructor <;> omega) | exact hG _ _) (by first | assumption | (constructor <;> omega) | exact hG _ _)) hbY_X9_within hbm_X9_99 hbs_X9_within (Nat.le_of_ble_eq_true rfl) ⟨by decide, by decide⟩ (by decide) (by decide) ?_
  refine aw_ifb_eq (tg := 35) dX9_life_12 (by decide) (fun c12 => ?_) (fun c12 => ?_)
  · skip
    exact absurd hP (by omega)
  · skip
    refine aw_ild2 dX9_life_15 ?_
    refine aw_iconst dX9_life_16 ?_
    refine aw_ldc (z := 1000000) dX9_life_17 hbk_X9_114 ?_
    refine aw_S3v dX9_life_19 (c_within (by first | assumption | (constructor <;> omega) | exact hG _ _) (by first | assumption | (constructor <;> omega) | exact hG _ _) (by first | assumption | (constructor <;> omega) | exact hG _ _)) hbY_X9_within hbm_X9_99 hbs_X9_within (Nat.le_of_ble_eq_true rfl) ⟨by decide, by decide⟩ (by decide) (by decide) ?_
    refine aw_ifb_eq (tg := 35) dX9_life_22 (by decide) (fun c22 => ?_) (fun c22 => ?_)
    · skip
      exact absurd hP (by omega)
    · skip
      refine aw_ild3 dX9_life_25 ?_
      refine aw_iconst dX9_life_26 ?_
      refine aw_ldc (z := 1000000) dX9_life_27 hbk_X9_114 ?_
      refine aw_S3v dX9_life_29 (c_within (by first | assumption | (constructor <;> omega) | exact hG _ _) (by first | assumption | (constructor <;> omega) | exact hG _ _) (by first | assumption | (constructor <;> omega) | exact hG _ _)) hbY_X9_within hbm_X9_99 hbs_X9_within (Nat.le_of_ble_eq_true rfl) ⟨by decide, by decide⟩ (by decide) (by decide) ?_
      refine aw_ifb_ne (tg := 37) dX9_life_32 (by decide) (fun c32 => ?_) (fun c32 => ?_)
      · skip
        refine aw_ald0 dX9_life_37 ?_
        refine aw_getf dX9_life_38 hbf_X9_13 rfl rfl ?_
        refine aw_ild1 dX9_life_41 ?_
        refine aw_ild2 dX9_life_42 ?_
        refine aw_iastw dX9_life_43 (fun _ => rfl) rfl (by constructor <;> omega) (by decide) ?_
        refine aw_ald0 dX9_life_44 ?_
        refine aw_getf dX9_life_45 hbf_X9_16 rfl rfl ?_
        refine aw_ild1 dX9_life_48 ?_
        refine aw_ild3 dX9_life_49 ?_
        refine aw_iastw dX9_life_50 (fun _ => rfl) rfl (by constructor <;> omega) (by decide) ?_
        refine aw_iconst dX9_life_51 ?_
        exact aw_zret dX9_life_52 rfl (by first | omega | exact hb_b01 _) (by rfl) rfl rfl (by decide) (by decide)
      · skip
        exact absurd hP (by omega)
set_option maxRecDepth 20000 in
set_option maxHeartbeats 1000000 in
theorem c_mLifeN {l : Launch} {G : hb_G} {F : hb_F} {na : Nat} {k m c : Int} (ik : hb_in k) (im : hb_in m) (ic : hb_in c) (hP : ¬ ((0 ≤ k ∧ k ≤ 11) ∧ (0 ≤ m ∧ m ≤ 1000000) ∧ (0 ≤ c ∧ c ≤ 1000000))) (hG : hb_rg G) : hb_M l yX9_life cX9_life 4 (some .boolean) 1 0 0 [hb_r 47, hb_i k, hb_i m, hb_i c] (hb_w G F na) (77 + na) (.inl (some (hb_i (0)))) (hb_w (hb_u2 G 47 0 0) F na) (77 + na) := by
  refine hb_M_in rfl rfl (by decide) rfl (Nat.le_of_ble_eq_true rfl) ?_
  intro E z0 σ0
  have hG0 := hG
  have hG : hb_rg (hb_u2 G 47 0 0) := hG0.u2 (by decide)
  refine aw_ald0 dX9_life_0 ?_
  refine aw_iconst dX9_life_1 ?_
  refine aw_putz (jz := 0) dX9_life_2 hbf_X9_95 hbS_X9 (fun C T n h9 => by cases h9; exact ⟨rfl, by decide +kernel, fun h8 => by cases h8⟩) rfl rfl rfl rfl ?_
  refine aw_ild1 dX9_life_5 ?_
  refine aw_iconst dX9_life_6 ?_
  refine aw_bipush dX9_life_7 (by decide) ?_
  refine aw_S3v dX9_life_9 (c_within (by first | assumption | (constructor <;> omega) | exact hG _ _) (by first | assumption | (constructor <;> omega) | exact hG _ _) (by first | assumption | (constructor <;> omega) | exact hG _ _)) hbY_X9_within hbm_X9_99 hbs_X9_within (Nat.le_of_ble_eq_true rfl) ⟨by decide, by decide⟩ (by decide) (by decide) ?_
  refine aw_ifb_eq (tg := 35) dX9_life_12 (by decide) (fun c12 => ?_) (fun c12 => ?_)
  · skip
    refine aw_iconst dX9_life_35 ?_
    exact aw_zret dX9_life_36 rfl (by first | omega | exact hb_b01 _) (by rfl) rfl rfl (by decide) (by decide)
  · skip
    refine aw_ild2 dX9_life_15 ?_
    refine aw_iconst dX9_life_16 ?_
    refine aw_ldc (z := 1000000) dX9_life_17 hbk_X9_114 ?_
    refine aw_S3v dX9_life_19 (c_within (by first | assumption | (constructor <;> omega) | exact hG _ _) (by first | assumption | (constructor <;> omega) | exact hG _ _) (by first | assumption | (constructor <;> omega) | exact hG _ _)) hbY_X9_within hbm_X9_99 hbs_X9_within (Nat.le_of_ble_eq_true rfl) ⟨by decide, by decide⟩ (by decide) (by decide) ?_
    refine aw_ifb_eq (tg := 35) dX9_life_22 (by decide) (fun c22 => ?_) (fun c22 => ?_)
    · skip
      refine aw_iconst dX9_life_35 ?_
      exact aw_zret dX9_life_36 rfl (by first | omega | exact hb_b01 _) (by rfl) rfl rfl (by decide) (by decide)
    · skip
      refine aw_ild3 dX9_life_25 ?_
      refine aw_iconst dX9_life_26 ?_
      refine aw_ldc (z := 1000000) dX9_life_27 hbk_X9_114 ?_
      refine aw_S3v dX9_life_29 (c_within (by first | assumption | (constructor <;> omega) | exact hG _ _) (by first | assumption | (constructor <;> omega) | exact hG _ _) (by first | assumption | (constructor <;> omega) | exact hG _ _)) hbY_X9_within hbm_X9_99 hbs_X9_within (Nat.le_of_ble_eq_true rfl) ⟨by decide, by decide⟩ (by decide) (by decide) ?_
      refine aw_ifb_ne (tg := 37) dX9_life_32 (by decide) (fun c32 => ?_) (fun c32 => ?_)
      · skip
        exact absurd (by omega) hP
      · skip
        refine aw_iconst dX9_life_35 ?_
        exact aw_zret dX9_life_36 rfl (by first | omega | exact hb_b01 _) (by rfl) rfl rfl (by decide) (by decide)
def hb_jv (G : hb_G) (e : Int) : Prop := G 64 e ≠ 0 ∧ (G 63 e = 1 ∨ G 63 e = 2)
set_option maxRecDepth 20000 in
set_option maxHeartbeats 1000000 in
theorem c_mIsMove {l : Launch} {G : hb_G} {F : hb_F} {na : Nat} {e : Int} (he : 0 ≤ e ∧ e < 201) (hG : hb_rg G) : hb_M l yX9_isMove cX9_isMove 2 (some .boolean) 0 0 0 [hb_r 47, hb_i e] (hb_w G F na) (77 + na) (.inl (some (hb_i (hb_b (hb_jv G e))))) (hb_w G F na) (77 + na) := by
  refine hb_M_in rfl rfl (by decide) rfl (Nat.le_of_ble_eq_true rfl) ?_
  intro E z0 σ0
  refine aw_ald0 dX9_isMove_0 ?_
  refine aw_getf dX9_isMove_1 hbf_X9_58 rfl rfl ?_
  refine aw_ild1 dX9_isMove_4 ?_
  refine aw_zald dX9_isMove_5 rfl (by constructor <;> omega) (by decide) ?_
  refine aw_if_eq (tg := 33) dX9_isMove_6 (by decide) (by first | exact hG _ _ | assumption | (constructor <;> omega)) (fun c6 => ?_) (fun c6 => ?_)
  · skip
    refine aw_iconst dX9_isMove_33 ?_
    exact aw_zret dX9_isMove_34 rfl (by first | omega | exact hb_b01 _) (by first | exact hb_oi1 ⟨by omega, by omega⟩ | exact hb_oi0 (fun h9 => by have a1 := h9.1; have a2 := h9.2; omega)) rfl rfl (by decide) (by decide)
  · skip
    refine aw_ald0 dX9_isMove_9 ?_
    refine aw_getf dX9_isMove_10 hbf_X9_55 rfl rfl ?_
    refine aw_ild1 dX9_isMove_13 ?_
    refine aw_iald dX9_isMove_14 rfl (by constructor <;> omega) (by decide) ?_
    refine aw_iconst dX9_isMove_15 ?_
    refine aw_icmp_eq (tg := 29) dX9_isMove_16 (by decide) (by first | exact hG _ _ | assumption | (constructor <;> omega)) (by first | exact hG _ _ | assumption | (constructor <;> omega)) (fun c16 => ?_) (fun c16 => ?_)
    · skip
      refine aw_iconst dX9_isMove_29 ?_
      refine aw_goto (tg := 34) dX9_isMove_30 (by decide) ?_
      exact aw_zret dX9_isMove_34 rfl (by first | omega | exact hb_b01 _) (by first | exact hb_oi1 ⟨by omega, by omega⟩ | exact hb_oi0 (fun h9 => by have a1 := h9.1; have a2 := h9.2; omega)) rfl rfl (by decide) (by decide)
    · skip
      refine aw_ald0 dX9_isMove_19 ?_
      refine aw_getf dX9_isMove_20 hbf_X9_55 rfl rfl ?_
      refine aw_ild1 dX9_isMove_23 ?_
      refine aw_iald dX9_isMove_24 rfl (by constructor <;> omega) (by decide) ?_
      refine aw_iconst dX9_isMove_25 ?_
      refine aw_icmp_ne (tg := 33) dX9_isMove_26 (by decide) (by first | exact hG _ _ | assumption | (constructor <;> omega)) (by first | exact hG _ _ | assumption | (constructor <;> omega)) (fun c26 => ?_) (fun c26 => ?_)
      · skip
        refine aw_iconst dX9_isMove_33 ?_
        exact aw_zret dX9_isMove_34 rfl (by first | omega | exact hb_b01 _) (by first | exact hb_oi1 ⟨by omega, by omega⟩ | exact hb_oi0 (fun h9 => by have a1 := h9.1; have a2 := h9.2; omega)) rfl rfl (by decide) (by decide)
      · skip
        refine aw_iconst dX9_isMove_29 ?_
        refine aw_goto (tg := 34) dX9_isMove_30 (by decide) ?_
        exact aw_zret dX9_isMove_34 rfl (by first | omega | exact hb_b01 _) (by first | exact hb_oi1 ⟨by omega, by omega⟩ | exact hb_oi0 (fun h9 => by have a1 := h9.1; have a2 := h9.2; omega)) rfl rfl (by decide) (by decide)
/-- at most n steps up -/
def hb_en (par : Int → Int) (n : Nat) (t : Int) : Prop := match n with
  | 0 => par t = -1
  | n + 1 => par t = -1 ∨ hb_en par n (par t)
def hb_dp (par : Int → Int) (n : Nat) (t : Int) : Int := match n with
  | 0 => 0
  | n + 1 => if par t = -1 then 0 else 1 + hb_dp par n (par t)
def hb_ii (par : Int → Int) (u : Int) (n : Nat) (t : Int) : Prop := match n with
  | 0 => t = u
  | n + 1 => t = u ∨ (par t ≠ -1 ∧ hb_ii par u n (par t))
theorem hb_dp_in {par : Int → Int} : ∀ (n : Nat) (t : Int), 0 ≤ hb_dp par n t ∧ hb_dp par n t ≤ n
  | 0, t => by unfold hb_dp; omega
  | n + 1, t => by
    unfold hb_dp
    split
    · omega
    · have := hb_dp_in (par := par) n (par t); omega
noncomputable def hb_hg (K : Nat → Prop) (f : Int → Int) (n : Nat) : Int := match n with
  | 0 => 0
  | n + 1 => @ite Int (K n) (Classical.propDecidable _) (max (hb_hg K f n) (f n)) (hb_hg K f n)
theorem hb_hg_in {K : Nat → Prop} {f : Int → Int} {M : Int} (hM : 0 ≤ M) (hf : ∀ i, f i ≤ M) : ∀ n, 0 ≤ hb_hg K f n ∧ hb_hg K f n ≤ M
  | 0 => by unfold hb_hg; omega
  | n + 1 => by
    unfold hb_hg
    have h1 := hb_hg_in (K := K) hM hf n
    have h2 := hf n
    split <;> omega
set_option maxRecDepth 20000 in
set_option maxHeartbeats 1000000 in
theorem c_mDepth {l : Launch} {G : hb_G} {F : hb_F} {na : Nat} {t : Int} (ht : 0 ≤ t ∧ t < 40) (hp : hb_tr (G 71)) (hen : ∀ t, 0 ≤ t ∧ t < 40 → hb_en (G 71) 4 t) (hG : hb_rg G) : hb_M l yX9_depth cX9_depth 4 (some .int) 0 0 0 [hb_r 47, hb_i t] (hb_w G F na) (77 + na) (.inl (some (hb_i (hb_dp (G 71) 4 t)))) (hb_w G F na) (77 + na) := by
  refine hb_M_in rfl rfl (by decide) rfl (Nat.le_of_ble_eq_true rfl) ?_
  intro E z0 σ0
  have key : ∀ (n : Nat) (v c : Int), hb_en (G 71) n v → 0 ≤ v ∧ v < 40 → c + hb_dp (G 71) n v = hb_dp (G 71) 4 t → hb_W l RX9 cX9_depth 4 (some .int) "depth" [] E z0 (hb_rm 0 0 0) σ0 (77 + na) (.inl (some (hb_i (hb_dp (G 71) 4 t)))) (hb_w G F na) (77 + na) 0 0 4 [hb_r 47, hb_i t, hb_i c, hb_i v] [] (hb_w G F na) (77 + na) := by
    intro n
    induction n with
    | zero =>
      intro v c h1 h2 h3
      have h4 : G 71 v = -1 := h1
      refine aw_ald0 dX9_depth_4 ?_
      refine aw_getf dX9_depth_5 hbf_X9_80 rfl rfl ?_
      refine aw_ild3 dX9_depth_8 ?_
      refine aw_iald dX9_depth_9 rfl (by constructor <;> omega) (by decide) ?_
      refine aw_iconst dX9_depth_10 ?_
      refine aw_icmp_eq (tg := 27) dX9_depth_11 (by decide) (by first | exact hG _ _ | assumption | (constructor <;> omega)) (by first | exact hG _ _ | assumption | (constructor <;> omega)) (fun c11 => ?_) (fun c11 => absurd c11 (by omega))
      refine aw_ild2 dX9_depth_27 ?_
      exact aw_iret dX9_depth_28 rfl (by exact congrArg (fun z => (Sum.inl (some (hb_i z)) : hb_O)) (by rw [← h3]; unfold hb_dp; omega)) rfl rfl (by decide) (by decide)
    | succ n ih =>
      intro v c h1 h2 h3
      have h5 := hp v h2
      refine aw_ald0 dX9_depth_4 ?_
      refine aw_getf dX9_depth_5 hbf_X9_80 rfl rfl ?_
      refine aw_ild3 dX9_depth_8 ?_
      refine aw_iald dX9_depth_9 rfl (by constructor <;> omega) (by decide) ?_
      refine aw_iconst dX9_depth_10 ?_
      refine aw_icmp_eq (tg := 27) dX9_depth_11 (by decide) (by first | exact hG _ _ | assumption | (constructor <;> omega)) (by first | exact hG _ _ | assumption | (constructor <;> omega)) (fun c11 => ?_) (fun c11 => ?_)
      · skip
        refine aw_ild2 dX9_depth_27 ?_
        exact aw_iret dX9_depth_28 rfl (by exact congrArg (fun z => (Sum.inl (some (hb_i z)) : hb_O)) (by rw [← h3]; unfold hb_dp; rw [if_pos (by assumption)]; omega)) rfl rfl (by decide) (by decide)
      · skip
        refine aw_iinc2 dX9_depth_14 (by decide) ?_
        refine aw_ald0 dX9_depth_17 ?_
        refine aw_getf dX9_depth_18 hbf_X9_80 rfl rfl ?_
        refine aw_ild3 dX9_depth_21 ?_
        refine aw_iald dX9_depth_22 rfl (by constructor <;> omega) (by decide) ?_
        refine aw_ist3 dX9_depth_23 (by decide) ?_
        refine aw_goto (tg := 4) dX9_depth_24 (by decide) ?_
        refine ih _ _ (h1.resolve_left (by assumption)) (by omega) ?_
        have h6 : hb_dp (G 71) (n + 1) v = 1 + hb_dp (G 71) n (G 71 v) := by conv => lhs; unfold hb_dp; rw [if_neg (by assumption)]
        omega
  refine aw_iconst dX9_depth_0 ?_
  refine aw_ipu2 dX9_depth_1 (by decide) ?_
  refine aw_ild1 dX9_depth_2 ?_
  refine aw_ipu3 dX9_depth_3 (by decide) ?_
  exact key 4 t 0 (hen t ht) ht (by omega)
set_option maxRecDepth 20000 in
set_option maxHeartbeats 1000000 in
theorem c_mIsIn {l : Launch} {G : hb_G} {F : hb_F} {na : Nat} {t u : Int} (ht : 0 ≤ t ∧ t < 40) (iu : hb_in u) (hp : hb_tr (G 71)) (hen : ∀ t, 0 ≤ t ∧ t < 40 → hb_en (G 71) 4 t) (hG : hb_rg G) : hb_M l yX9_isIn cX9_isIn 4 (some .boolean) 0 0 0 [hb_r 47, hb_i t, hb_i u] (hb_w G F na) (77 + na) (.inl (some (hb_i (hb_b (hb_ii (G 71) u 4 t))))) (hb_w G F na) (77 + na) := by
  refine hb_M_in rfl rfl (by decide) rfl (Nat.le_of_ble_eq_true rfl) ?_
  intro E z0 σ0
  have key : ∀ (n : Nat) (v : Int), hb_en (G 71) n v → 0 ≤ v ∧ v < 40 → (hb_ii (G 71) u n v ↔ hb_ii (G 71) u 4 t) → hb_W l RX9 cX9_isIn 4 (some .boolean) "isIn" [] E z0 (hb_rm 0 0 0) σ0 (77 + na) (.inl (some (hb_i (hb_b (hb_ii (G 71) u 4 t))))) (hb_w G F na) (77 + na) 0 0 2 [hb_r 47, hb_i t, hb_i u, hb_i v] [] (hb_w G F na) (77 + na) := by
    intro n
    induction n with
    | zero =>
      intro v h1 h2 h3
      have h4 : G 71 v = -1 := h1
      refine aw_ild3 dX9_isIn_2 ?_
      refine aw_ild2 dX9_isIn_3 ?_
      refine aw_icmp_eq (tg := 27) dX9_isIn_4 (by decide) (by first | exact hG _ _ | assumption | (constructor <;> omega)) (by first | exact hG _ _ | assumption | (constructor <;> omega)) (fun c4 => ?_) (fun c4 => ?_)
      · skip
        refine aw_ild3 dX9_isIn_27 ?_
        refine aw_ild2 dX9_isIn_28 ?_
        refine aw_icmp_ne (tg := 36) dX9_isIn_29 (by decide) (by first | exact hG _ _ | assumption | (constructor <;> omega)) (by first | exact hG _ _ | assumption | (constructor <;> omega)) (fun c29 => ?_) (fun c29 => ?_)
        · skip
          refine aw_iconst dX9_isIn_36 ?_
          exact aw_zret dX9_isIn_37 rfl (by first | omega | exact hb_b01 _) (by first | exact hb_oi1 (h3.mp (by unfold hb_ii; omega)) | exact hb_oi0 (fun h9 => by have h8 := h3.mpr h9; unfold hb_ii at h8; omega)) rfl rfl (by decide) (by decide)
        · skip
          refine aw_iconst dX9_isIn_32 ?_
          refine aw_goto (tg := 37) dX9_isIn_33 (by decide) ?_
          exact aw_zret dX9_isIn_37 rfl (by first | omega | exact hb_b01 _) (by first | exact hb_oi1 (h3.mp (by unfold hb_ii; omega)) | exact hb_oi0 (fun h9 => by have h8 := h3.mpr h9; unfold hb_ii at h8; omega)) rfl rfl (by decide) (by decide)
      · skip
        refine aw_ald0 dX9_isIn_7 ?_
        refine aw_getf dX9_isIn_8 hbf_X9_80 rfl rfl ?_
        refine aw_ild3 dX9_isIn_11 ?_
        refine aw_iald dX9_isIn_12 rfl (by constructor <;> omega) (by decide) ?_
        refine aw_iconst dX9_isIn_13 ?_
        refine aw_icmp_eq (tg := 27) dX9_isIn_14 (by decide) (by first | exact hG _ _ | assumption | (constructor <;> omega)) (by first | exact hG _ _ | assumption | (constructor <;> omega)) (fun c14 => ?_) (fun c14 => absurd c14 (by omega))
        refine aw_ild3 dX9_isIn_27 ?_
        refine aw_ild2 dX9_isIn_28 ?_
        refine aw_icmp_ne (tg := 36) dX9_isIn_29 (by decide) (by first | exact hG _ _ | assumption | (constructor <;> omega)) (by first | exact hG _ _ | assumption | (constructor <;> omega)) (fun c29 => ?_) (fun c29 => ?_)
        · skip
          refine aw_iconst dX9_isIn_36 ?_
          exact aw_zret dX9_isIn_37 rfl (by first | omega | exact hb_b01 _) (by first | exact hb_oi1 (h3.mp (by unfold hb_ii; omega)) | exact hb_oi0 (fun h9 => by have h8 := h3.mpr h9; unfold hb_ii at h8; omega)) rfl rfl (by decide) (by decide)
        · skip
          refine aw_iconst dX9_isIn_32 ?_
          refine aw_goto (tg := 37) dX9_isIn_33 (by decide) ?_
          exact aw_zret dX9_isIn_37 rfl (by first | omega | exact hb_b01 _) (by first | exact hb_oi1 (h3.mp (by unfold hb_ii; omega)) | exact hb_oi0 (fun h9 => by have h8 := h3.mpr h9; unfold hb_ii at h8; omega)) rfl rfl (by decide) (by decide)
    | succ n ih =>
      intro v h1 h2 h3
      have h5 := hp v h2
      refine aw_ild3 dX9_isIn_2 ?_
      refine aw_ild2 dX9_isIn_3 ?_
      refine aw_icmp_eq (tg := 27) dX9_isIn_4 (by decide) (by first | exact hG _ _ | assumption | (constructor <;> omega)) (by first | exact hG _ _ | assumption | (constructor <;> omega)) (fun c4 => ?_) (fun c4 => ?_)
      · skip
        refine aw_ild3 dX9_isIn_27 ?_
        refine aw_ild2 dX9_isIn_28 ?_
        refine aw_icmp_ne (tg := 36) dX9_isIn_29 (by decide) (by first | exact hG _ _ | assumption | (constructor <;> omega)) (by first | exact hG _ _ | assumption | (constructor <;> omega)) (fun c29 => ?_) (fun c29 => ?_)
        · skip
          refine aw_iconst dX9_isIn_36 ?_
          exact aw_zret dX9_isIn_37 rfl (by first | omega | exact hb_b01 _) (by first | exact hb_oi1 (h3.mp (by unfold hb_ii; exact Or.inl (by omega))) | exact hb_oi0 (fun h9 => by have h8 := h3.mpr h9; unfold hb_ii at h8; rcases h8 with h8 | ⟨h8, -⟩ <;> omega)) rfl rfl (by decide) (by decide)
        · skip
          refine aw_iconst dX9_isIn_32 ?_
          refine aw_goto (tg := 37) dX9_isIn_33 (by decide) ?_
          exact aw_zret dX9_isIn_37 rfl (by first | omega | exact hb_b01 _) (by first | exact hb_oi1 (h3.mp (by unfold hb_ii; exact Or.inl (by omega))) | exact hb_oi0 (fun h9 => by have h8 := h3.mpr h9; unfold hb_ii at h8; rcases h8 with h8 | ⟨h8, -⟩ <;> omega)) rfl rfl (by decide) (by decide)
      · skip
        refine aw_ald0 dX9_isIn_7 ?_
        refine aw_getf dX9_isIn_8 hbf_X9_80 rfl rfl ?_
        refine aw_ild3 dX9_isIn_11 ?_
        refine aw_iald dX9_isIn_12 rfl (by constructor <;> omega) (by decide) ?_
        refine aw_iconst dX9_isIn_13 ?_
        refine aw_icmp_eq (tg := 27) dX9_isIn_14 (by decide) (by first | exact hG _ _ | assumption | (constructor <;> omega)) (by first | exact hG _ _ | assumption | (constructor <;> omega)) (fun c14 => ?_) (fun c14 => ?_)
        · skip
          refine aw_ild3 dX9_isIn_27 ?_
          refine aw_ild2 dX9_isIn_28 ?_
          refine aw_icmp_ne (tg := 36) dX9_isIn_29 (by decide) (by first | exact hG _ _ | assumption | (constructor <;> omega)) (by first | exact hG _ _ | assumption | (constructor <;> omega)) (fun c29 => ?_) (fun c29 => ?_)
          · skip
            refine aw_iconst dX9_isIn_36 ?_
            exact aw_zret dX9_isIn_37 rfl (by first | omega | exact hb_b01 _) (by first | exact hb_oi1 (h3.mp (by unfold hb_ii; exact Or.inl (by omega))) | exact hb_oi0 (fun h9 => by have h8 := h3.mpr h9; unfold hb_ii at h8; rcases h8 with h8 | ⟨h8, -⟩ <;> omega)) rfl rfl (by decide) (by decide)
          · skip
            refine aw_iconst dX9_isIn_32 ?_
            refine aw_goto (tg := 37) dX9_isIn_33 (by decide) ?_
            exact aw_zret dX9_isIn_37 rfl (by first | omega | exact hb_b01 _) (by first | exact hb_oi1 (h3.mp (by unfold hb_ii; exact Or.inl (by omega))) | exact hb_oi0 (fun h9 => by have h8 := h3.mpr h9; unfold hb_ii at h8; rcases h8 with h8 | ⟨h8, -⟩ <;> omega)) rfl rfl (by decide) (by decide)
        · skip
          refine aw_ald0 dX9_isIn_17 ?_
          refine aw_getf dX9_isIn_18 hbf_X9_80 rfl rfl ?_
          refine aw_ild3 dX9_isIn_21 ?_
          refine aw_iald dX9_isIn_22 rfl (by constructor <;> omega) (by decide) ?_
          refine aw_ist3 dX9_isIn_23 (by decide) ?_
          refine aw_goto (tg := 2) dX9_isIn_24 (by decide) ?_
          refine ih _ (h1.resolve_left (by assumption)) (by omega) ?_
          rw [← h3]
          constructor
          · intro h9; unfold hb_ii; exact Or.inr ⟨by assumption, h9⟩
          · intro h9; unfold hb_ii at h9; rcases h9 with h9 | h9; exact absurd h9 (by assumption); exact h9.2
  refine aw_ild1 dX9_isIn_0 ?_
  refine aw_ipu3 dX9_isIn_1 (by decide) ?_
  exact key 4 t (hen t ht) ht Iff.rfl
def hb_jh (G : hb_G) (t p : Int) (c : Nat) : Prop := G 51 c ≠ -1 ∧ G 71 c = t ∧ G 72 c = p
set_option maxRecDepth 20000 in
set_option maxHeartbeats 1000000 in
theorem c_mHanging {l : Launch} {G : hb_G} {F : hb_F} {na : Nat} {t p : Int} (it : hb_in t) (ip : hb_in p) (hG : hb_rg G) : hb_M l yX9_hanging cX9_hanging 4 (some .int) 0 0 0 [hb_r 47, hb_i t, hb_i p] (hb_w G F na) (77 + na) (.inl (some (hb_i (hb_fd (hb_jh G t p) 40 0 0)))) (hb_w G F na) (77 + na) := by
  refine hb_M_in rfl rfl (by decide) rfl (Nat.le_of_ble_eq_true rfl) ?_
  intro E z0 σ0
  have key : ∀ (n c : Nat), c + n = 40 → hb_fd (hb_jh G t p) n c 0 = hb_fd (hb_jh G t p) 40 0 0 → hb_W l RX9 cX9_hanging 4 (some .int) "hanging" [] E z0 (hb_rm 0 0 0) σ0 (77 + na) (.inl (some (hb_i (hb_fd (hb_jh G t p) 40 0 0)))) (hb_w G F na) (77 + na) 0 0 2 [hb_r 47, hb_i t, hb_i p, hb_i (c : Int)] [] (hb_w G F na) (77 + na) := by
    intro n
    induction n with
    | zero =>
      intro c h0 h3
      refine aw_ild3 dX9_hanging_2 ?_
      refine aw_bipush dX9_hanging_3 (by decide) ?_
      refine aw_icmp_ge (tg := 46) dX9_hanging_5 (by decide) (by first | exact hG _ _ | assumption | (constructor <;> omega)) (by first | exact hG _ _ | assumption | (constructor <;> omega)) (fun c5 => ?_) (fun c5 => absurd c5 (by omega))
      refine aw_iconst dX9_hanging_46 ?_
      exact aw_iret dX9_hanging_47 rfl (by exact congrArg (fun z => (Sum.inl (some (hb_i z)) : hb_O)) (by rw [← h3]; rfl)) rfl rfl (by decide) (by decide)
    | succ n ih =>
      intro c h0 h3
      refine aw_ild3 dX9_hanging_2 ?_
      refine aw_bipush dX9_hanging_3 (by decide) ?_
      refine aw_icmp_ge (tg := 46) dX9_hanging_5 (by decide) (by first | exact hG _ _ | assumption | (constructor <;> omega)) (by first | exact hG _ _ | assumption | (constructor <;> omega)) (fun c5 => absurd c5 (by omega)) (fun c5 => ?_)
      refine aw_ald0 dX9_hanging_8 ?_
      refine aw_getf dX9_hanging_9 hbf_X9_19 rfl rfl ?_
      refine aw_ild3 dX9_hanging_12 ?_
      refine aw_iald dX9_hanging_13 rfl (by constructor <;> omega) (by decide) ?_
      refine aw_iconst dX9_hanging_14 ?_
      refine aw_icmp_eq (tg := 40) dX9_hanging_15 (by decide) (by first | exact hG _ _ | assumption | (constructor <;> omega)) (by first | exact hG _ _ | assumption | (constructor <;> omega)) (fun c15 => ?_) (fun c15 => ?_)
      · skip
        refine aw_iinc3 dX9_hanging_40 (by decide) ?_
        refine aw_goto (tg := 2) dX9_hanging_43 (by decide) ?_
        exact ih (c + 1) (by omega) (by rw [← h3, hb_fd_n (P := hb_jh G t p) (j := c) (fun h9 => by first | exact absurd h9.1 (by omega) | exact absurd h9.2.1 (by omega) | exact absurd h9.2.2 (by omega))])
      · skip
        refine aw_ald0 dX9_hanging_18 ?_
        refine aw_getf dX9_hanging_19 hbf_X9_80 rfl rfl ?_
        refine aw_ild3 dX9_hanging_22 ?_
        refine aw_iald dX9_hanging_23 rfl (by constructor <;> omega) (by decide) ?_
        refine aw_ild1 dX9_hanging_24 ?_
        refine aw_icmp_ne (tg := 40) dX9_hanging_25 (by decide) (by first | exact hG _ _ | assumption | (constructor <;> omega)) (by first | exact hG _ _ | assumption | (constructor <;> omega)) (fun c25 => ?_) (fun c25 => ?_)
        · skip
          refine aw_iinc3 dX9_hanging_40 (by decide) ?_
          refine aw_goto (tg := 2) dX9_hanging_43 (by decide) ?_
          exact ih (c + 1) (by omega) (by rw [← h3, hb_fd_n (P := hb_jh G t p) (j := c) (fun h9 => by first | exact absurd h9.1 (by omega) | exact absurd h9.2.1 (by omega) | exact absurd h9.2.2 (by omega))])
        · skip
          refine aw_ald0 dX9_hanging_28 ?_
          refine aw_getf dX9_hanging_29 hbf_X9_83 rfl rfl ?_
          refine aw_ild3 dX9_hanging_32 ?_
          refine aw_iald dX9_hanging_33 rfl (by constructor <;> omega) (by decide) ?_
          refine aw_ild2 dX9_hanging_34 ?_
          refine aw_icmp_ne (tg := 40) dX9_hanging_35 (by decide) (by first | exact hG _ _ | assumption | (constructor <;> omega)) (by first | exact hG _ _ | assumption | (constructor <;> omega)) (fun c35 => ?_) (fun c35 => ?_)
          · skip
            refine aw_iinc3 dX9_hanging_40 (by decide) ?_
            refine aw_goto (tg := 2) dX9_hanging_43 (by decide) ?_
            exact ih (c + 1) (by omega) (by rw [← h3, hb_fd_n (P := hb_jh G t p) (j := c) (fun h9 => by first | exact absurd h9.1 (by omega) | exact absurd h9.2.1 (by omega) | exact absurd h9.2.2 (by omega))])
          · skip
            refine aw_ild3 dX9_hanging_38 ?_
            exact aw_iret dX9_hanging_39 rfl (by exact congrArg (fun z => (Sum.inl (some (hb_i z)) : hb_O)) (by rw [← h3, hb_fd_0 (P := hb_jh G t p) (j := c) ⟨by assumption, by assumption, by assumption⟩])) rfl rfl (by decide) (by decide)
  refine aw_iconst dX9_hanging_0 ?_
  refine aw_ipu3 dX9_hanging_1 (by decide) ?_
  exact key 40 0 (by omega) rfl
def hb_jk (G : hb_G) (t : Int) (c : Nat) : Prop := G 51 c ≠ -1 ∧ hb_ii (G 71) t 4 c
noncomputable def hb_hj (G : hb_G) (t : Int) (n : Nat) : Int := hb_hg (hb_jk G t) (fun c => hb_dp (G 71) 4 c - hb_dp (G 71) 4 t) n
theorem hb_hj_in (G : hb_G) (t : Int) (n : Nat) : 0 ≤ hb_hj G t n ∧ hb_hj G t n ≤ 4 := by
  refine hb_hg_in (by omega) (fun i => ?_) n
  have h1 := hb_dp_in (par := G 71) 4 i
  have h2 := hb_dp_in (par := G 71) 4 t
  show hb_dp (G 71) 4 i - hb_dp (G 71) 4 t ≤ 4
  omega
theorem hb_hj_y {G : hb_G} {t : Int} {n : Nat} (h : hb_jk G t n) : hb_hj G t (n + 1) = max (hb_hj G t n) (hb_dp (G 71) 4 n - hb_dp (G 71) 4 t) := by
  conv => lhs; unfold hb_hj hb_hg
  exact if_pos h
theorem hb_hj_n {G : hb_G} {t : Int} {n : Nat} (h : ¬ hb_jk G t n) : hb_hj G t (n + 1) = hb_hj G t n := by
  conv => lhs; unfold hb_hj hb_hg
  exact if_neg h
set_option maxRecDepth 20000 in
set_option maxHeartbeats 1000000 in
theorem c_mHeight {l : Launch} {G : hb_G} {F : hb_F} {na : Nat} {t : Int} (ht : 0 ≤ t ∧ t < 40) (hp : hb_tr (G 71)) (hen : ∀ t, 0 ≤ t ∧ t < 40 → hb_en (G 71) 4 t) (hG : hb_rg G) : hb_M l yX9_height cX9_height 5 (some .int) 1 0 0 [hb_r 47, hb_i t] (hb_w G F na) (77 + na) (.inl (some (hb_i (hb_hj G t 40)))) (hb_w G F na) (77 + na) := by
  refine hb_M_in rfl rfl (by decide) rfl (Nat.le_of_ble_eq_true rfl) ?_
  intro E z0 σ0
  have key : ∀ (n c : Nat), c + n = 40 → hb_W l RX9 cX9_height 5 (some .int) "height" [] E z0 (hb_rm 1 0 0) σ0 (77 + na) (.inl (some (hb_i (hb_hj G t 40)))) (hb_w G F na) (77 + na) 0 0 4 [hb_r 47, hb_i t, hb_i (hb_hj G t c), hb_i (c : Int)] [] (hb_w G F na) (77 + na) := by
    intro n
    induction n with
    | zero =>
      intro c h0
      have e9 : c = 40 := by omega
      subst e9
      refine aw_ild3 dX9_height_4 ?_
      refine aw_bipush dX9_height_5 (by decide) ?_
      refine aw_icmp_ge (tg := 64) dX9_height_7 (by decide) (by first | exact hG _ _ | assumption | (constructor <;> omega)) (by first | exact hG _ _ | assumption | (constructor <;> omega)) (fun c7 => ?_) (fun c7 => absurd c7 (by omega))
      refine aw_ild2 dX9_height_64 ?_
      exact aw_iret dX9_height_65 rfl (by rfl) rfl rfl (by decide) (by decide)
    | succ n ih =>
      intro c h0
      have q1 := hb_hj_in G t c
      have q2 := hb_dp_in (par := G 71) 4 (c : Int)
      have q3 := hb_dp_in (par := G 71) 4 t
      have h9 := ih (c + 1) (by omega)
      refine aw_ild3 dX9_height_4 ?_
      refine aw_bipush dX9_height_5 (by decide) ?_
      refine aw_icmp_ge (tg := 64) dX9_height_7 (by decide) (by first | exact hG _ _ | assumption | (constructor <;> omega)) (by first | exact hG _ _ | assumption | (constructor <;> omega)) (fun c7 => absurd c7 (by omega)) (fun c7 => ?_)
      refine aw_ald0 dX9_height_10 ?_
      refine aw_getf dX9_height_11 hbf_X9_19 rfl rfl ?_
      refine aw_ild3 dX9_height_14 ?_
      refine aw_iald dX9_height_15 rfl (by constructor <;> omega) (by decide) ?_
      refine aw_iconst dX9_height_16 ?_
      refine aw_icmp_eq (tg := 58) dX9_height_17 (by decide) (by first | exact hG _ _ | assumption | (constructor <;> omega)) (by first | exact hG _ _ | assumption | (constructor <;> omega)) (fun c17 => ?_) (fun c17 => ?_)
      · skip
        refine aw_iinc3 dX9_height_58 (by decide) ?_
        refine aw_goto (tg := 4) dX9_height_61 (by decide) ?_
        first | (rw [hb_hj_n (G := G) (t := t) (n := c) (fun h8 => by first | exact absurd h8.1 (by omega) | exact absurd h8.2 (by assumption))] at h9; exact h9) | (rw [hb_hj_y (G := G) (t := t) (n := c) ⟨by assumption, by assumption⟩, show max (hb_hj G t c) (hb_dp (G 71) 4 c - hb_dp (G 71) 4 t) = hb_dp (G 71) 4 c - hb_dp (G 71) 4 t by omega] at h9; exact h9) | (rw [hb_hj_y (G := G) (t := t) (n := c) ⟨by assumption, by assumption⟩, show max (hb_hj G t c) (hb_dp (G 71) 4 c - hb_dp (G 71) 4 t) = hb_hj G t c by omega] at h9; exact h9)
      · skip
        refine aw_ald0 dX9_height_20 ?_
        refine aw_ild3 dX9_height_21 ?_
        refine aw_ild1 dX9_height_22 ?_
        refine aw_V2v dX9_height_23 (c_mIsIn (by first | assumption | (constructor <;> omega) | exact hG _ _) (by first | assumption | (constructor <;> omega) | exact hG _ _) hp hen hG) rfl rfl hbY_X9_isIn hbm_X9_132 hbi_X9_isIn hbe_X9_X9_isIn (Nat.le_of_ble_eq_true rfl) ⟨by decide, by decide⟩ (by decide) (by decide) ?_
        refine aw_ifb_ne (tg := 32) dX9_height_26 (by decide) (fun c26 => ?_) (fun c26 => ?_)
        · skip
          refine aw_ald0 dX9_height_32 ?_
          refine aw_ild3 dX9_height_33 ?_
          refine aw_V1v dX9_height_34 (c_mDepth (by first | assumption | (constructor <;> omega) | exact hG _ _) hp hen hG) rfl rfl hbY_X9_depth hbm_X9_136 hbi_X9_depth hbe_X9_X9_depth (Nat.le_of_ble_eq_true rfl) ⟨by decide, by decide⟩ (by decide) (by decide) ?_
          refine aw_ald0 dX9_height_37 ?_
          refine aw_ild1 dX9_height_38 ?_
          refine aw_V1v dX9_height_39 (c_mDepth (by first | assumption | (constructor <;> omega) | exact hG _ _) hp hen hG) rfl rfl hbY_X9_depth hbm_X9_136 hbi_X9_depth hbe_X9_X9_depth (Nat.le_of_ble_eq_true rfl) ⟨by decide, by decide⟩ (by decide) (by decide) ?_
          refine aw_isub dX9_height_42 ?_
          refine aw_ipu4 dX9_height_43 (by decide) ?_
          refine aw_ild4 dX9_height_45 ?_
          refine aw_ild2 dX9_height_47 ?_
          refine aw_icmp_le (tg := 56) dX9_height_48 (by decide) (by constructor <;> omega) (by constructor <;> omega) (fun c48 => ?_) (fun c48 => ?_)
          · skip
            refine aw_ild2 dX9_height_56 ?_
            refine aw_ist2 dX9_height_57 (by decide) ?_
            refine aw_iinc3 dX9_height_58 (by decide) ?_
            refine aw_goto (tg := 4) dX9_height_61 (by decide) ?_
            refine aw_dk_4_1 ?_
            first | (rw [hb_hj_n (G := G) (t := t) (n := c) (fun h8 => by first | exact absurd h8.1 (by omega) | exact absurd h8.2 (by assumption))] at h9; exact h9) | (rw [hb_hj_y (G := G) (t := t) (n := c) ⟨by assumption, by assumption⟩, show max (hb_hj G t c) (hb_dp (G 71) 4 c - hb_dp (G 71) 4 t) = hb_dp (G 71) 4 c - hb_dp (G 71) 4 t by omega] at h9; exact h9) | (rw [hb_hj_y (G := G) (t := t) (n := c) ⟨by assumption, by assumption⟩, show max (hb_hj G t c) (hb_dp (G 71) 4 c - hb_dp (G 71) 4 t) = hb_hj G t c by omega] at h9; exact h9)
          · skip
            refine aw_ild4 dX9_height_51 ?_
            refine aw_goto (tg := 57) dX9_height_53 (by decide) ?_
            refine aw_ist2 dX9_height_57 (by decide) ?_
            refine aw_iinc3 dX9_height_58 (by decide) ?_
            refine aw_goto (tg := 4) dX9_height_61 (by decide) ?_
            refine aw_dk_4_1 ?_
            first | (rw [hb_hj_n (G := G) (t := t) (n := c) (fun h8 => by first | exact absurd h8.1 (by omega) | exact absurd h8.2 (by assumption))] at h9; exact h9) | (rw [hb_hj_y (G := G) (t := t) (n := c) ⟨by assumption, by assumption⟩, show max (hb_hj G t c) (hb_dp (G 71) 4 c - hb_dp (G 71) 4 t) = hb_dp (G 71) 4 c - hb_dp (G 71) 4 t by omega] at h9; exact h9) | (rw [hb_hj_y (G := G) (t := t) (n := c) ⟨by assumption, by assumption⟩, show max (hb_hj G t c) (hb_dp (G 71) 4 c - hb_dp (G 71) 4 t) = hb_hj G t c by omega] at h9; exact h9)
        · skip
          refine aw_goto (tg := 58) dX9_height_29 (by decide) ?_
          refine aw_iinc3 dX9_height_58 (by decide) ?_
          refine aw_goto (tg := 4) dX9_height_61 (by decide) ?_
          first | (rw [hb_hj_n (G := G) (t := t) (n := c) (fun h8 => by first | exact absurd h8.1 (by omega) | exact absurd h8.2 (by assumption))] at h9; exact h9) | (rw [hb_hj_y (G := G) (t := t) (n := c) ⟨by assumption, by assumption⟩, show max (hb_hj G t c) (hb_dp (G 71) 4 c - hb_dp (G 71) 4 t) = hb_dp (G 71) 4 c - hb_dp (G 71) 4 t by omega] at h9; exact h9) | (rw [hb_hj_y (G := G) (t := t) (n := c) ⟨by assumption, by assumption⟩, show max (hb_hj G t c) (hb_dp (G 71) 4 c - hb_dp (G 71) 4 t) = hb_hj G t c by omega] at h9; exact h9)
  refine aw_iconst dX9_height_0 ?_
  refine aw_ipu2 dX9_height_1 (by decide) ?_
  refine aw_iconst dX9_height_2 ?_
  refine aw_ipu3 dX9_height_3 (by decide) ?_
  exact key 40 0 (by omega)
def hb_my (G : hb_G) (t a p : Int) : Prop := G 71 t = -1 ∧ ¬ hb_ii (G 71) t 4 a ∧ G 48 (4 * G 51 a + p) = G 51 t ∧ hb_fd (hb_jh G a p) 40 0 0 = -1 ∧ hb_dp (G 71) 4 a + 1 + hb_hj G t 40 ≤ 4
set_option maxRecDepth 20000 in
set_option maxHeartbeats 1000000 in
theorem c_mMoveT {l : Launch} {G : hb_G} {F : hb_F} {na : Nat} {e : Int} (he : 0 ≤ e ∧ e < 201) (ht : 0 ≤ G 65 e ∧ G 65 e < 40) (hw : G 63 e = 2) (hG : hb_rg G) : hb_M l yX9_move cX9_move 6 (some .boolean) 2 0 0 [hb_r 47, hb_i e] (hb_w G F na) (77 + na) (.inl (some (hb_i (hb_b (G 71 (G 65 e) ≠ -1))))) (hb_w (hb_u2 (hb_u2 G 71 (G 65 e) (-1)) 72 (G 65 e) (-1)) F na) (77 + na) := by
  refine hb_M_in rfl rfl (by decide) rfl (Nat.le_of_ble_eq_true rfl) ?_
  intro E z0 σ0
  refine aw_ald0 dX9_move_0 ?_
  refine aw_getf dX9_move_1 hbf_X9_62 rfl rfl ?_
  refine aw_ild1 dX9_move_4 ?_
  refine aw_iald dX9_move_5 rfl (by constructor <;> omega) (by decide) ?_
  refine aw_ipu2 dX9_move_6 (by decide) ?_
  refine aw_ald0 dX9_move_7 ?_
  refine aw_getf dX9_move_8 hbf_X9_55 rfl rfl ?_
  refine aw_ild1 dX9_move_11 ?_
  refine aw_iald dX9_move_12 rfl (by constructor <;> omega) (by decide) ?_
  refine aw_iconst dX9_move_13 ?_
  refine aw_icmp_ne (tg := 49) dX9_move_14 (by decide) (by first | exact hG _ _ | assumption | (constructor <;> omega)) (by first | exact hG _ _ | assumption | (constructor <;> omega)) (fun c14 => absurd c14 (by omega)) (fun c14 => ?_)
  refine aw_ald0 dX9_move_17 ?_
  refine aw_getf dX9_move_18 hbf_X9_80 rfl rfl ?_
  refine aw_ild2 dX9_move_21 ?_
  refine aw_iald dX9_move_22 rfl (by constructor <;> omega) (by decide) ?_
  refine aw_iconst dX9_move_23 ?_
  refine aw_icmp_eq (tg := 31) dX9_move_24 (by decide) (by first | exact hG _ _ | assumption | (constructor <;> omega)) (by first | exact hG _ _ | assumption | (constructor <;> omega)) (fun c24 => ?_) (fun c24 => ?_)
  · skip
    refine aw_iconst dX9_move_31 ?_
    refine aw_ipu3 dX9_move_32 (by decide) ?_
    refine aw_ald0 dX9_move_33 ?_
    refine aw_getf dX9_move_34 hbf_X9_80 rfl rfl ?_
    refine aw_ild2 dX9_move_37 ?_
    refine aw_iconst dX9_move_38 ?_
    refine aw_iastw dX9_move_39 (fun _ => rfl) rfl (by constructor <;> omega) (by decide) ?_
    refine aw_ald0 dX9_move_40 ?_
    refine aw_getf dX9_move_41 hbf_X9_83 rfl rfl ?_
    refine aw_ild2 dX9_move_44 ?_
    refine aw_iconst dX9_move_45 ?_
    refine aw_iastw dX9_move_46 (fun _ => rfl) rfl (by constructor <;> omega) (by decide) ?_
    refine aw_ild3 dX9_move_47 ?_
    exact aw_zret dX9_move_48 rfl (by first | omega | exact hb_b01 _) (by first | exact hb_oi1 (by assumption) | exact hb_oi0 (fun h9 => h9 (by assumption))) rfl rfl (by decide) (by decide)
  · skip
    refine aw_iconst dX9_move_27 ?_
    refine aw_goto (tg := 32) dX9_move_28 (by decide) ?_
    refine aw_ipu3 dX9_move_32 (by decide) ?_
    refine aw_ald0 dX9_move_33 ?_
    refine aw_getf dX9_move_34 hbf_X9_80 rfl rfl ?_
    refine aw_ild2 dX9_move_37 ?_
    refine aw_iconst dX9_move_38 ?_
    refine aw_iastw dX9_move_39 (fun _ => rfl) rfl (by constructor <;> omega) (by decide) ?_
    refine aw_ald0 dX9_move_40 ?_
    refine aw_getf dX9_move_41 hbf_X9_83 rfl rfl ?_
    refine aw_ild2 dX9_move_44 ?_
    refine aw_iconst dX9_move_45 ?_
    refine aw_iastw dX9_move_46 (fun _ => rfl) rfl (by constructor <;> omega) (by decide) ?_
    refine aw_ild3 dX9_move_47 ?_
    exact aw_zret dX9_move_48 rfl (by first | omega | exact hb_b01 _) (by first | exact hb_oi1 (by assumption) | exact hb_oi0 (fun h9 => h9 (by assumption))) rfl rfl (by decide) (by decide)
theorem hb_fd_in {P : Nat → Prop} : ∀ (n j : Nat) (b : Int), -1 ≤ hb_fd P n j b ∧ hb_fd P n j b < (j : Int) + n
  | 0, j, b => by unfold hb_fd; omega
  | n + 1, j, b => by
    unfold hb_fd
    have h1 := hb_fd_in (P := P) n (j + 1) (b - 1)
    have h2 := hb_fd_in (P := P) n (j + 1) b
    split
    · split <;> omega
    · omega
set_option maxRecDepth 20000 in
set_option maxHeartbeats 1000000 in
theorem c_mMoveY {l : Launch} {G : hb_G} {F : hb_F} {na : Nat} {e : Int} (he : 0 ≤ e ∧ e < 201) (ht : 0 ≤ G 65 e ∧ G 65 e < 40) (hw : G 63 e ≠ 2) (ha : 0 ≤ G 67 e ∧ G 67 e < 40) (hpp : 0 ≤ G 68 e ∧ G 68 e < 4) (hk : 0 ≤ G 51 (G 67 e) ∧ G 51 (G 67 e) < 12) (hy : hb_my G (G 65 e) (G 67 e) (G 68 e)) (hp : hb_tr (G 71)) (hen : ∀ t, 0 ≤ t ∧ t < 40 → hb_en (G 71) 4 t) (hG : hb_rg G) : hb_M l yX9_move cX9_move 6 (some .boolean) 2 0 0 [hb_r 47, hb_i e] (hb_w G F na) (77 + na) (.inl (some (hb_i (1)))) (hb_w (hb_u2 (hb_u2 G 71 (G 65 e) (G 67 e)) 72 (G 65 e) (G 68 e)) F na) (77 + na) := by
  refine hb_M_in rfl rfl (by decide) rfl (Nat.le_of_ble_eq_true rfl) ?_
  intro E z0 σ0
  have q1 := hb_hj_in G (G 65 e) 40
  have q2 := hb_dp_in (par := G 71) 4 (G 67 e)
  have q3 := hb_fd_in (P := hb_jh G (G 67 e) (G 68 e)) 40 0 0
  refine aw_ald0 dX9_move_0 ?_
  refine aw_getf dX9_move_1 hbf_X9_62 rfl rfl ?_
  refine aw_ild1 dX9_move_4 ?_
  refine aw_iald dX9_move_5 rfl (by constructor <;> omega) (by decide) ?_
  refine aw_ipu2 dX9_move_6 (by decide) ?_
  refine aw_ald0 dX9_move_7 ?_
  refine aw_getf dX9_move_8 hbf_X9_55 rfl rfl ?_
  refine aw_ild1 dX9_move_11 ?_
  refine aw_iald dX9_move_12 rfl (by constructor <;> omega) (by decide) ?_
  refine aw_iconst dX9_move_13 ?_
  refine aw_icmp_ne (tg := 49) dX9_move_14 (by decide) (by first | exact hG _ _ | assumption | (constructor <;> omega)) (by first | exact hG _ _ | assumption | (constructor <;> omega)) (fun c14 => ?_) (fun c14 => absurd c14 (by omega))
  refine aw_ald0 dX9_move_49 ?_
  refine aw_getf dX9_move_50 hbf_X9_68 rfl rfl ?_
  refine aw_ild1 dX9_move_53 ?_
  refine aw_iald dX9_move_54 rfl (by constructor <;> omega) (by decide) ?_
  refine aw_ipu3 dX9_move_55 (by decide) ?_
  refine aw_ald0 dX9_move_56 ?_
  refine aw_getf dX9_move_57 hbf_X9_71 rfl rfl ?_
  refine aw_ild1 dX9_move_60 ?_
  refine aw_iald dX9_move_61 rfl (by constructor <;> omega) (by decide) ?_
  refine aw_ipu4 dX9_move_62 (by decide) ?_
  refine aw_ald0 dX9_move_64 ?_
  refine aw_getf dX9_move_65 hbf_X9_80 rfl rfl ?_
  refine aw_ild2 dX9_move_68 ?_
  refine aw_iald dX9_move_69 rfl (by constructor <;> omega) (by decide) ?_
  refine aw_iconst dX9_move_70 ?_
  refine aw_icmp_ne (tg := 140) dX9_move_71 (by decide) (by first | exact hG _ _ | assumption | (constructor <;> omega)) (by first | exact hG _ _ | assumption | (constructor <;> omega)) (fun c71 => absurd c71 (by exact fun h8 => h8 hy.1)) (fun c71 => ?_)
  refine aw_ald0 dX9_move_74 ?_
  refine aw_ild3 dX9_move_75 ?_
  refine aw_ild2 dX9_move_76 ?_
  refine aw_V2v dX9_move_77 (c_mIsIn (by first | assumption | (constructor <;> omega) | exact hG _ _) (by first | assumption | (constructor <;> omega) | exact hG _ _) hp hen hG) rfl rfl hbY_X9_isIn hbm_X9_132 hbi_X9_isIn hbe_X9_X9_isIn (Nat.le_of_ble_eq_true rfl) ⟨by decide, by decide⟩ (by decide) (by decide) ?_
  refine aw_ifb_ne (tg := 140) dX9_move_80 (by decide) (fun c80 => absurd c80 (by exact fun h8 => hy.2.1 h8)) (fun c80 => ?_)
  refine aw_ald0 dX9_move_83 ?_
  refine aw_getf dX9_move_84 hbf_X9_7 rfl rfl ?_
  refine aw_iconst dX9_move_87 ?_
  refine aw_ald0 dX9_move_88 ?_
  refine aw_getf dX9_move_89 hbf_X9_19 rfl rfl ?_
  refine aw_ild3 dX9_move_92 ?_
  refine aw_iald dX9_move_93 rfl (by constructor <;> omega) (by decide) ?_
  refine aw_imul dX9_move_94 ?_
  refine aw_ild4 dX9_move_95 ?_
  refine aw_iadd dX9_move_97 ?_
  refine aw_iald dX9_move_98 rfl (by constructor <;> omega) (by decide) ?_
  refine aw_ald0 dX9_move_99 ?_
  refine aw_getf dX9_move_100 hbf_X9_19 rfl rfl ?_
  refine aw_ild2 dX9_move_103 ?_
  refine aw_iald dX9_move_104 rfl (by constructor <;> omega) (by decide) ?_
  refine aw_icmp_ne (tg := 140) dX9_move_105 (by decide) (by first | exact hG _ _ | assumption | (constructor <;> omega)) (by first | exact hG _ _ | assumption | (constructor <;> omega)) (fun c105 => absurd c105 (by exact fun h8 => h8 hy.2.2.1)) (fun c105 => ?_)
  refine aw_ald0 dX9_move_108 ?_
  refine aw_ild3 dX9_move_109 ?_
  refine aw_ild4 dX9_move_110 ?_
  refine aw_V2v dX9_move_112 (c_mHanging (by first | assumption | (constructor <;> omega) | exact hG _ _) (by first | assumption | (constructor <;> omega) | exact hG _ _) hG) rfl rfl hbY_X9_hanging hbm_X9_140 hbi_X9_hanging hbe_X9_X9_hanging (Nat.le_of_ble_eq_true rfl) ⟨by decide, by decide⟩ (by decide) (by decide) ?_
  refine aw_iconst dX9_move_115 ?_
  refine aw_icmp_ne (tg := 140) dX9_move_116 (by decide) (by constructor <;> omega) (by decide) (fun c116 => absurd c116 (by exact fun h8 => h8 hy.2.2.2.1)) (fun c116 => ?_)
  refine aw_ald0 dX9_move_119 ?_
  refine aw_ild3 dX9_move_120 ?_
  refine aw_V1v dX9_move_121 (c_mDepth (by first | assumption | (constructor <;> omega) | exact hG _ _) hp hen hG) rfl rfl hbY_X9_depth hbm_X9_136 hbi_X9_depth hbe_X9_X9_depth (Nat.le_of_ble_eq_true rfl) ⟨by decide, by decide⟩ (by decide) (by decide) ?_
  refine aw_iconst dX9_move_124 ?_
  refine aw_iadd dX9_move_125 ?_
  refine aw_ald0 dX9_move_126 ?_
  refine aw_ild2 dX9_move_127 ?_
  refine aw_V1v dX9_move_128 (c_mHeight (by first | assumption | (constructor <;> omega) | exact hG _ _) hp hen hG) rfl rfl hbY_X9_height hbm_X9_144 hbi_X9_height hbe_X9_X9_height (Nat.le_of_ble_eq_true rfl) ⟨by decide, by decide⟩ (by decide) (by decide) ?_
  refine aw_iadd dX9_move_131 ?_
  refine aw_iconst dX9_move_132 ?_
  refine aw_icmp_gt (tg := 140) dX9_move_133 (by decide) (by first | exact hG _ _ | assumption | (constructor <;> omega)) (by first | exact hG _ _ | assumption | (constructor <;> omega)) (fun c133 => absurd c133 (by exact fun h8 => absurd hy.2.2.2.2 (by omega))) (fun c133 => ?_)
  refine aw_iconst dX9_move_136 ?_
  refine aw_goto (tg := 141) dX9_move_137 (by decide) ?_
  refine aw_ipu5 dX9_move_141 (by decide) ?_
  refine aw_ild5 dX9_move_143 ?_
  refine aw_if_ne (tg := 150) dX9_move_145 (by decide) (by decide) (fun c145 => ?_) (fun c145 => absurd c145 (by decide))
  refine aw_ald0 dX9_move_150 ?_
  refine aw_getf dX9_move_151 hbf_X9_80 rfl rfl ?_
  refine aw_ild2 dX9_move_154 ?_
  refine aw_ild3 dX9_move_155 ?_
  refine aw_iastw dX9_move_156 (fun _ => rfl) rfl (by constructor <;> omega) (by decide) ?_
  refine aw_ald0 dX9_move_157 ?_
  refine aw_getf dX9_move_158 hbf_X9_83 rfl rfl ?_
  refine aw_ild2 dX9_move_161 ?_
  refine aw_ild4 dX9_move_162 ?_
  refine aw_iastw dX9_move_164 (fun _ => rfl) rfl (by constructor <;> omega) (by decide) ?_
  refine aw_iconst dX9_move_165 ?_
  exact aw_zret dX9_move_166 rfl (by first | omega | exact hb_b01 _) (by rfl) rfl rfl (by decide) (by decide)
set_option maxRecDepth 20000 in
set_option maxHeartbeats 1000000 in
theorem c_mMoveN {l : Launch} {G : hb_G} {F : hb_F} {na : Nat} {e : Int} (he : 0 ≤ e ∧ e < 201) (ht : 0 ≤ G 65 e ∧ G 65 e < 40) (hw : G 63 e ≠ 2) (ha : 0 ≤ G 67 e ∧ G 67 e < 40) (hpp : 0 ≤ G 68 e ∧ G 68 e < 4) (hk : 0 ≤ G 51 (G 67 e) ∧ G 51 (G 67 e) < 12) (hn : ¬ hb_my G (G 65 e) (G 67 e) (G 68 e)) (hp : hb_tr (G 71)) (hen : ∀ t, 0 ≤ t ∧ t < 40 → hb_en (G 71) 4 t) (hG : hb_rg G) : hb_M l yX9_move cX9_move 6 (some .boolean) 2 0 0 [hb_r 47, hb_i e] (hb_w G F na) (77 + na) (.inl (some (hb_i (0)))) (hb_w G F na) (77 + na) := by
  refine hb_M_in rfl rfl (by decide) rfl (Nat.le_of_ble_eq_true rfl) ?_
  intro E z0 σ0
  have q1 := hb_hj_in G (G 65 e) 40
  have q2 := hb_dp_in (par := G 71) 4 (G 67 e)
  have q3 := hb_fd_in (P := hb_jh G (G 67 e) (G 68 e)) 40 0 0
  refine aw_ald0 dX9_move_0 ?_
  refine aw_getf dX9_move_1 hbf_X9_62 rfl rfl ?_
  refine aw_ild1 dX9_move_4 ?_
  refine aw_iald dX9_move_5 rfl (by constructor <;> omega) (by decide) ?_
  refine aw_ipu2 dX9_move_6 (by decide) ?_
  refine aw_ald0 dX9_move_7 ?_
  refine aw_getf dX9_move_8 hbf_X9_55 rfl rfl ?_
  refine aw_ild1 dX9_move_11 ?_
  refine aw_iald dX9_move_12 rfl (by constructor <;> omega) (by decide) ?_
  refine aw_iconst dX9_move_13 ?_
  refine aw_icmp_ne (tg := 49) dX9_move_14 (by decide) (by first | exact hG _ _ | assumption | (constructor <;> omega)) (by first | exact hG _ _ | assumption | (constructor <;> omega)) (fun c14 => ?_) (fun c14 => absurd c14 (by omega))
  refine aw_ald0 dX9_move_49 ?_
  refine aw_getf dX9_move_50 hbf_X9_68 rfl rfl ?_
  refine aw_ild1 dX9_move_53 ?_
  refine aw_iald dX9_move_54 rfl (by constructor <;> omega) (by decide) ?_
  refine aw_ipu3 dX9_move_55 (by decide) ?_
  refine aw_ald0 dX9_move_56 ?_
  refine aw_getf dX9_move_57 hbf_X9_71 rfl rfl ?_
  refine aw_ild1 dX9_move_60 ?_
  refine aw_iald dX9_move_61 rfl (by constructor <;> omega) (by decide) ?_
  refine aw_ipu4 dX9_move_62 (by decide) ?_
  refine aw_ald0 dX9_move_64 ?_
  refine aw_getf dX9_move_65 hbf_X9_80 rfl rfl ?_
  refine aw_ild2 dX9_move_68 ?_
  refine aw_iald dX9_move_69 rfl (by constructor <;> omega) (by decide) ?_
  refine aw_iconst dX9_move_70 ?_
  refine aw_icmp_ne (tg := 140) dX9_move_71 (by decide) (by first | exact hG _ _ | assumption | (constructor <;> omega)) (by first | exact hG _ _ | assumption | (constructor <;> omega)) (fun c71 => ?_) (fun c71 => ?_)
  · skip
    refine aw_iconst dX9_move_140 ?_
    refine aw_ipu5 dX9_move_141 (by decide) ?_
    refine aw_ild5 dX9_move_143 ?_
    refine aw_if_ne (tg := 150) dX9_move_145 (by decide) (by decide) (fun c145 => absurd c145 (by decide)) (fun c145 => ?_)
    refine aw_iconst dX9_move_148 ?_
    exact aw_zret dX9_move_149 rfl (by first | omega | exact hb_b01 _) (by rfl) rfl rfl (by decide) (by decide)
  · skip
    refine aw_ald0 dX9_move_74 ?_
    refine aw_ild3 dX9_move_75 ?_
    refine aw_ild2 dX9_move_76 ?_
    refine aw_V2v dX9_move_77 (c_mIsIn (by first | assumption | (constructor <;> omega) | exact hG _ _) (by first | assumption | (constructor <;> omega) | exact hG _ _) hp hen hG) rfl rfl hbY_X9_isIn hbm_X9_132 hbi_X9_isIn hbe_X9_X9_isIn (Nat.le_of_ble_eq_true rfl) ⟨by decide, by decide⟩ (by decide) (by decide) ?_
    refine aw_ifb_ne (tg := 140) dX9_move_80 (by decide) (fun c80 => ?_) (fun c80 => ?_)
    · skip
      refine aw_iconst dX9_move_140 ?_
      refine aw_ipu5 dX9_move_141 (by decide) ?_
      refine aw_ild5 dX9_move_143 ?_
      refine aw_if_ne (tg := 150) dX9_move_145 (by decide) (by decide) (fun c145 => absurd c145 (by decide)) (fun c145 => ?_)
      refine aw_iconst dX9_move_148 ?_
      exact aw_zret dX9_move_149 rfl (by first | omega | exact hb_b01 _) (by rfl) rfl rfl (by decide) (by decide)
    · skip
      refine aw_ald0 dX9_move_83 ?_
      refine aw_getf dX9_move_84 hbf_X9_7 rfl rfl ?_
      refine aw_iconst dX9_move_87 ?_
      refine aw_ald0 dX9_move_88 ?_
      refine aw_getf dX9_move_89 hbf_X9_19 rfl rfl ?_
      refine aw_ild3 dX9_move_92 ?_
      refine aw_iald dX9_move_93 rfl (by constructor <;> omega) (by decide) ?_
      refine aw_imul dX9_move_94 ?_
      refine aw_ild4 dX9_move_95 ?_
      refine aw_iadd dX9_move_97 ?_
      refine aw_iald dX9_move_98 rfl (by constructor <;> omega) (by decide) ?_
      refine aw_ald0 dX9_move_99 ?_
      refine aw_getf dX9_move_100 hbf_X9_19 rfl rfl ?_
      refine aw_ild2 dX9_move_103 ?_
      refine aw_iald dX9_move_104 rfl (by constructor <;> omega) (by decide) ?_
      refine aw_icmp_ne (tg := 140) dX9_move_105 (by decide) (by first | exact hG _ _ | assumption | (constructor <;> omega)) (by first | exact hG _ _ | assumption | (constructor <;> omega)) (fun c105 => ?_) (fun c105 => ?_)
      · skip
        refine aw_iconst dX9_move_140 ?_
        refine aw_ipu5 dX9_move_141 (by decide) ?_
        refine aw_ild5 dX9_move_143 ?_
        refine aw_if_ne (tg := 150) dX9_move_145 (by decide) (by decide) (fun c145 => absurd c145 (by decide)) (fun c145 => ?_)
        refine aw_iconst dX9_move_148 ?_
        exact aw_zret dX9_move_149 rfl (by first | omega | exact hb_b01 _) (by rfl) rfl rfl (by decide) (by decide)
      · skip
        refine aw_ald0 dX9_move_108 ?_
        refine aw_ild3 dX9_move_109 ?_
        refine aw_ild4 dX9_move_110 ?_
        refine aw_V2v dX9_move_112 (c_mHanging (by first | assumption | (constructor <;> omega) | exact hG _ _) (by first | assumption | (constructor <;> omega) | exact hG _ _) hG) rfl rfl hbY_X9_hanging hbm_X9_140 hbi_X9_hanging hbe_X9_X9_hanging (Nat.le_of_ble_eq_true rfl) ⟨by decide, by decide⟩ (by decide) (by decide) ?_
        refine aw_iconst dX9_move_115 ?_
        refine aw_icmp_ne (tg := 140) dX9_move_116 (by decide) (by constructor <;> omega) (by decide) (fun c116 => ?_) (fun c116 => ?_)
        · skip
          refine aw_iconst dX9_move_140 ?_
          refine aw_ipu5 dX9_move_141 (by decide) ?_
          refine aw_ild5 dX9_move_143 ?_
          refine aw_if_ne (tg := 150) dX9_move_145 (by decide) (by decide) (fun c145 => absurd c145 (by decide)) (fun c145 => ?_)
          refine aw_iconst dX9_move_148 ?_
          exact aw_zret dX9_move_149 rfl (by first | omega | exact hb_b01 _) (by rfl) rfl rfl (by decide) (by decide)
        · skip
          refine aw_ald0 dX9_move_119 ?_
          refine aw_ild3 dX9_move_120 ?_
          refine aw_V1v dX9_move_121 (c_mDepth (by first | assumption | (constructor <;> omega) | exact hG _ _) hp hen hG) rfl rfl hbY_X9_depth hbm_X9_136 hbi_X9_depth hbe_X9_X9_depth (Nat.le_of_ble_eq_true rfl) ⟨by decide, by decide⟩ (by decide) (by decide) ?_
          refine aw_iconst dX9_move_124 ?_
          refine aw_iadd dX9_move_125 ?_
          refine aw_ald0 dX9_move_126 ?_
          refine aw_ild2 dX9_move_127 ?_
          refine aw_V1v dX9_move_128 (c_mHeight (by first | assumption | (constructor <;> omega) | exact hG _ _) hp hen hG) rfl rfl hbY_X9_height hbm_X9_144 hbi_X9_height hbe_X9_X9_height (Nat.le_of_ble_eq_true rfl) ⟨by decide, by decide⟩ (by decide) (by decide) ?_
          refine aw_iadd dX9_move_131 ?_
          refine aw_iconst dX9_move_132 ?_
          refine aw_icmp_gt (tg := 140) dX9_move_133 (by decide) (by first | exact hG _ _ | assumption | (constructor <;> omega)) (by first | exact hG _ _ | assumption | (constructor <;> omega)) (fun c133 => ?_) (fun c133 => absurd c133 (by exact fun h8 => hn ⟨by assumption, by assumption, by assumption, by assumption, h8⟩))
          refine aw_iconst dX9_move_140 ?_
          refine aw_ipu5 dX9_move_141 (by decide) ?_
          refine aw_ild5 dX9_move_143 ?_
          refine aw_if_ne (tg := 150) dX9_move_145 (by decide) (by decide) (fun c145 => absurd c145 (by decide)) (fun c145 => ?_)
          refine aw_iconst dX9_move_148 ?_
          exact aw_zret dX9_move_149 rfl (by first | omega | exact hb_b01 _) (by rfl) rfl rfl (by decide) (by decide)
theorem hb_u2_71 (G : hb_G) (f g : Int → Int) (i v : Int) : hb_u2 (hb_u1 (hb_u1 G 71 f) 72 g) 71 i v = hb_u1 (hb_u1 G 71 (hb_uf f i v)) 72 g := by
  funext p
  by_cases e1 : p = 71
  · subst e1; simp [hb_u2, hb_u1]
  · by_cases e2 : p = 72
    · subst e2; simp [hb_u2, hb_u1]
    · simp [hb_u2, hb_u1, e1, e2]
theorem hb_u2_72 (G : hb_G) (f g : Int → Int) (i v : Int) : hb_u2 (hb_u1 (hb_u1 G 71 f) 72 g) 72 i v = hb_u1 (hb_u1 G 71 f) 72 (hb_uf g i v) := by
  rw [hb_u2_u1]
set_option maxRecDepth 20000 in
set_option maxHeartbeats 1000000 in
theorem c_mNothing {l : Launch} {G : hb_G} {F : hb_F} {na : Nat}  : hb_M l yX9_nothingHangs cX9_nothingHangs 2 none 0 0 0 [hb_r 47] (hb_w G F na) (77 + na) (.inl none) (hb_w (hb_u1 (hb_u1 G 71 (hb_fl (G 71) 40 (-1))) 72 (hb_fl (G 72) 40 (-1))) F na) (77 + na) := by
  refine hb_M_in rfl rfl (by decide) rfl (Nat.le_of_ble_eq_true rfl) ?_
  intro E z0 σ0
  have key : ∀ (n : Nat) (i : Int), 0 ≤ i → i ≤ 40 → 40 - i < n → hb_W l RX9 cX9_nothingHangs 2 none "nothingHangs" [] E z0 (hb_rm 0 0 0) σ0 (77 + na) (.inl none) (hb_w (hb_u1 (hb_u1 G 71 (hb_fl (G 71) 40 (-1))) 72 (hb_fl (G 72) 40 (-1))) F na) (77 + na) 0 0 2 [hb_r 47, hb_i i] [] (hb_w (hb_u1 (hb_u1 G 71 (hb_fl (G 71) i (-1))) 72 (hb_fl (G 72) i (-1))) F na) (77 + na) := by
    intro n
    induction n with
    | zero => intro i h1 h2 h3; omega
    | succ n ih =>
      intro i h1 h2 h3
      refine aw_ild1 dX9_nothingHangs_2 ?_
      refine aw_bipush dX9_nothingHangs_3 (by decide) ?_
      refine aw_icmp_ge (tg := 28) dX9_nothingHangs_5 (by decide) (by first | exact hG _ _ | assumption | (constructor <;> omega)) (by first | exact hG _ _ | assumption | (constructor <;> omega)) (fun c5 => ?_) (fun c5 => ?_)
      · skip
        have e9 : i = 40 := by omega
        subst e9
        exact aw_vret dX9_nothingHangs_28 rfl rfl rfl rfl (by decide) (by decide)
      · skip
        refine aw_ald0 dX9_nothingHangs_8 ?_
        refine aw_getf dX9_nothingHangs_9 hbf_X9_80 rfl rfl ?_
        refine aw_ild1 dX9_nothingHangs_12 ?_
        refine aw_iconst dX9_nothingHangs_13 ?_
        refine aw_iastw dX9_nothingHangs_14 (fun _ => rfl) rfl (by constructor <;> omega) (by decide) ?_
        refine aw_G (hb_u2_71 _ _ _ _ _) ?_
        refine aw_ald0 dX9_nothingHangs_15 ?_
        refine aw_getf dX9_nothingHangs_16 hbf_X9_83 rfl rfl ?_
        refine aw_ild1 dX9_nothingHangs_19 ?_
        refine aw_iconst dX9_nothingHangs_20 ?_
        refine aw_iastw dX9_nothingHangs_21 (fun _ => rfl) rfl (by constructor <;> omega) (by decide) ?_
        refine aw_G (hb_u2_72 _ _ _ _ _) ?_
        rw [hb_fl_s _ _ h1, hb_fl_s _ _ h1]
        refine aw_iinc1 dX9_nothingHangs_22 (by decide) ?_
        refine aw_goto (tg := 2) dX9_nothingHangs_25 (by decide) ?_
        exact ih (i + 1) (by omega) (by omega) (by omega)
  refine aw_G (G2 := hb_u1 (hb_u1 G 71 (hb_fl (G 71) 0 (-1))) 72 (hb_fl (G 72) 0 (-1))) (by rw [hb_fl_0, hb_fl_0, hb_u1_id, hb_u1_id]) ?_
  refine aw_iconst dX9_nothingHangs_0 ?_
  refine aw_ipu1 dX9_nothingHangs_1 (by decide) ?_
  exact key 41 0 (by omega) (by omega) (by omega)
set_option maxRecDepth 20000 in
set_option maxHeartbeats 1000000 in
theorem c_mMachineOfY {l : Launch} {G : hb_G} {F : hb_F} {na : Nat} {t : Int} (ht : 0 ≤ t ∧ t < 40) (hm : hb_jm G (hb_tp (G 71) 4 t)) (hp : hb_tr (G 71)) (hen : ∀ t, 0 ≤ t ∧ t < 40 → hb_en (G 71) 4 t) (hG : hb_rg G) : hb_M l yX9_machineOf cX9_machineOf 3 (some .int) 3 0 0 [hb_r 47, hb_i t] (hb_w G F na) (77 + na) (.inl (some (hb_i (hb_tp (G 71) 4 t)))) (hb_w G F na) (77 + na) := by
  refine hb_M_in rfl rfl (by decide) rfl (Nat.le_of_ble_eq_true rfl) ?_
  intro E z0 σ0
  have q9 := hb_tp_in hp 4 t ht
  have key : ∀ (n : Nat) (v : Int), hb_en (G 71) n v → 0 ≤ v ∧ v < 40 → hb_tp (G 71) n v = hb_tp (G 71) 4 t → hb_W l RX9 cX9_machineOf 3 (some .int) "machineOf" [] E z0 (hb_rm 3 0 0) σ0 (77 + na) (.inl (some (hb_i (hb_tp (G 71) 4 t)))) (hb_w G F na) (77 + na) 0 0 2 [hb_r 47, hb_i t, hb_i v] [] (hb_w G F na) (77 + na) := by
    intro n
    induction n with
    | zero =>
      intro v h1 h2 h3
      have h4 : G 71 v = -1 := h1
      have h6 : v = hb_tp (G 71) 4 t := h3
      have h6 : v = hb_tp (G 71) 4 t := h3
      refine aw_ald0 dX9_machineOf_2 ?_
      refine aw_getf dX9_machineOf_3 hbf_X9_80 rfl rfl ?_
      refine aw_ild2 dX9_machineOf_6 ?_
      refine aw_iald dX9_machineOf_7 rfl (by constructor <;> omega) (by decide) ?_
      refine aw_iconst dX9_machineOf_8 ?_
      refine aw_icmp_eq (tg := 22) dX9_machineOf_9 (by decide) (by first | exact hG _ _ | assumption | (constructor <;> omega)) (by first | exact hG _ _ | assumption | (constructor <;> omega)) (fun c9 => ?_) (fun c9 => absurd c9 (by omega))
      refine aw_ald0 dX9_machineOf_22 ?_
      refine aw_ild2 dX9_machineOf_23 ?_
      refine aw_V1v dX9_machineOf_24 (c_mIsMachine (by first | assumption | (constructor <;> omega) | exact hG _ _) hG) rfl rfl hbY_X9_isMachine hbm_X9_153 hbi_X9_isMachine hbe_X9_X9_isMachine (Nat.le_of_ble_eq_true rfl) ⟨by decide, by decide⟩ (by decide) (by decide) ?_
      refine aw_ifb_eq (tg := 34) dX9_machineOf_27 (by decide) (fun c27 => absurd c27 (by exact fun h8 => h8 (by rw [h6]; exact hm))) (fun c27 => ?_)
      refine aw_ild2 dX9_machineOf_30 ?_
      refine aw_goto (tg := 35) dX9_machineOf_31 (by decide) ?_
      exact aw_iret dX9_machineOf_35 rfl (by exact congrArg (fun z => (Sum.inl (some (hb_i z)) : hb_O)) (by omega)) rfl rfl (by decide) (by decide)
    | succ n ih =>
      intro v h1 h2 h3
      have h5 := hp v h2
      rcases Classical.em (G 71 v = -1) with h4 | h4
      · have h6 : v = hb_tp (G 71) 4 t := by rw [← h3]; unfold hb_tp; rw [if_pos h4]
        refine aw_ald0 dX9_machineOf_2 ?_
        refine aw_getf dX9_machineOf_3 hbf_X9_80 rfl rfl ?_
        refine aw_ild2 dX9_machineOf_6 ?_
        refine aw_iald dX9_machineOf_7 rfl (by constructor <;> omega) (by decide) ?_
        refine aw_iconst dX9_machineOf_8 ?_
        refine aw_icmp_eq (tg := 22) dX9_machineOf_9 (by decide) (by first | exact hG _ _ | assumption | (constructor <;> omega)) (by first | exact hG _ _ | assumption | (constructor <;> omega)) (fun c9 => ?_) (fun c9 => absurd c9 (by omega))
        refine aw_ald0 dX9_machineOf_22 ?_
        refine aw_ild2 dX9_machineOf_23 ?_
        refine aw_V1v dX9_machineOf_24 (c_mIsMachine (by first | assumption | (constructor <;> omega) | exact hG _ _) hG) rfl rfl hbY_X9_isMachine hbm_X9_153 hbi_X9_isMachine hbe_X9_X9_isMachine (Nat.le_of_ble_eq_true rfl) ⟨by decide, by decide⟩ (by decide) (by decide) ?_
        refine aw_ifb_eq (tg := 34) dX9_machineOf_27 (by decide) (fun c27 => absurd c27 (by exact fun h8 => h8 (by rw [h6]; exact hm))) (fun c27 => ?_)
        refine aw_ild2 dX9_machineOf_30 ?_
        refine aw_goto (tg := 35) dX9_machineOf_31 (by decide) ?_
        exact aw_iret dX9_machineOf_35 rfl (by exact congrArg (fun z => (Sum.inl (some (hb_i z)) : hb_O)) (by omega)) rfl rfl (by decide) (by decide)
      · have h6 : hb_tp (G 71) n (G 71 v) = hb_tp (G 71) 4 t := by rw [← h3]; conv => rhs; unfold hb_tp; rw [if_neg h4]
        refine aw_ald0 dX9_machineOf_2 ?_
        refine aw_getf dX9_machineOf_3 hbf_X9_80 rfl rfl ?_
        refine aw_ild2 dX9_machineOf_6 ?_
        refine aw_iald dX9_machineOf_7 rfl (by constructor <;> omega) (by decide) ?_
        refine aw_iconst dX9_machineOf_8 ?_
        refine aw_icmp_eq (tg := 22) dX9_machineOf_9 (by decide) (by first | exact hG _ _ | assumption | (constructor <;> omega)) (by first | exact hG _ _ | assumption | (constructor <;> omega)) (fun c9 => absurd c9 (by omega)) (fun c9 => ?_)
        refine aw_ald0 dX9_machineOf_12 ?_
        refine aw_getf dX9_machineOf_13 hbf_X9_80 rfl rfl ?_
        refine aw_ild2 dX9_machineOf_16 ?_
        refine aw_iald dX9_machineOf_17 rfl (by constructor <;> omega) (by decide) ?_
        refine aw_ist2 dX9_machineOf_18 (by decide) ?_
        refine aw_goto (tg := 2) dX9_machineOf_19 (by decide) ?_
        exact ih _ (h1.resolve_left h4) (by omega) h6
  refine aw_ild1 dX9_machineOf_0 ?_
  refine aw_ipu2 dX9_machineOf_1 (by decide) ?_
  exact key 4 t (hen t ht) ht rfl
set_option maxRecDepth 20000 in
set_option maxHeartbeats 1000000 in
theorem c_mMachineOfN {l : Launch} {G : hb_G} {F : hb_F} {na : Nat} {t : Int} (ht : 0 ≤ t ∧ t < 40) (hm : ¬ hb_jm G (hb_tp (G 71) 4 t)) (hp : hb_tr (G 71)) (hen : ∀ t, 0 ≤ t ∧ t < 40 → hb_en (G 71) 4 t) (hG : hb_rg G) : hb_M l yX9_machineOf cX9_machineOf 3 (some .int) 3 0 0 [hb_r 47, hb_i t] (hb_w G F na) (77 + na) (.inl (some (hb_i (-1)))) (hb_w G F na) (77 + na) := by
  refine hb_M_in rfl rfl (by decide) rfl (Nat.le_of_ble_eq_true rfl) ?_
  intro E z0 σ0
  have q9 := hb_tp_in hp 4 t ht
  have key : ∀ (n : Nat) (v : Int), hb_en (G 71) n v → 0 ≤ v ∧ v < 40 → hb_tp (G 71) n v = hb_tp (G 71) 4 t → hb_W l RX9 cX9_machineOf 3 (some .int) "machineOf" [] E z0 (hb_rm 3 0 0) σ0 (77 + na) (.inl (some (hb_i (-1)))) (hb_w G F na) (77 + na) 0 0 2 [hb_r 47, hb_i t, hb_i v] [] (hb_w G F na) (77 + na) := by
    intro n
    induction n with
    | zero =>
      intro v h1 h2 h3
      have h4 : G 71 v = -1 := h1
      have h6 : v = hb_tp (G 71) 4 t := h3
      have h6 : v = hb_tp (G 71) 4 t := h3
      refine aw_ald0 dX9_machineOf_2 ?_
      refine aw_getf dX9_machineOf_3 hbf_X9_80 rfl rfl ?_
      refine aw_ild2 dX9_machineOf_6 ?_
      refine aw_iald dX9_machineOf_7 rfl (by constructor <;> omega) (by decide) ?_
      refine aw_iconst dX9_machineOf_8 ?_
      refine aw_icmp_eq (tg := 22) dX9_machineOf_9 (by decide) (by first | exact hG _ _ | assumption | (constructor <;> omega)) (by first | exact hG _ _ | assumption | (constructor <;> omega)) (fun c9 => ?_) (fun c9 => absurd c9 (by omega))
      refine aw_ald0 dX9_machineOf_22 ?_
      refine aw_ild2 dX9_machineOf_23 ?_
      refine aw_V1v dX9_machineOf_24 (c_mIsMachine (by first | assumption | (constructor <;> omega) | exact hG _ _) hG) rfl rfl hbY_X9_isMachine hbm_X9_153 hbi_X9_isMachine hbe_X9_X9_isMachine (Nat.le_of_ble_eq_true rfl) ⟨by decide, by decide⟩ (by decide) (by decide) ?_
      refine aw_ifb_eq (tg := 34) dX9_machineOf_27 (by decide) (fun c27 => ?_) (fun c27 => absurd c27 (by exact fun h8 => hm (by rw [← h6]; exact h8)))
      refine aw_iconst dX9_machineOf_34 ?_
      exact aw_iret dX9_machineOf_35 rfl (by exact congrArg (fun z => (Sum.inl (some (hb_i z)) : hb_O)) (by omega)) rfl rfl (by decide) (by decide)
    | succ n ih =>
      intro v h1 h2 h3
      have h5 := hp v h2
      rcases Classical.em (G 71 v = -1) with h4 | h4
      · have h6 : v = hb_tp (G 71) 4 t := by rw [← h3]; unfold hb_tp; rw [if_pos h4]
        refine aw_ald0 dX9_machineOf_2 ?_
        refine aw_getf dX9_machineOf_3 hbf_X9_80 rfl rfl ?_
        refine aw_ild2 dX9_machineOf_6 ?_
        refine aw_iald dX9_machineOf_7 rfl (by constructor <;> omega) (by decide) ?_
        refine aw_iconst dX9_machineOf_8 ?_
        refine aw_icmp_eq (tg := 22) dX9_machineOf_9 (by decide) (by first | exact hG _ _ | assumption | (constructor <;> omega)) (by first | exact hG _ _ | assumption | (constructor <;> omega)) (fun c9 => ?_) (fun c9 => absurd c9 (by omega))
        refine aw_ald0 dX9_machineOf_22 ?_
        refine aw_ild2 dX9_machineOf_23 ?_
        refine aw_V1v dX9_machineOf_24 (c_mIsMachine (by first | assumption | (constructor <;> omega) | exact hG _ _) hG) rfl rfl hbY_X9_isMachine hbm_X9_153 hbi_X9_isMachine hbe_X9_X9_isMachine (Nat.le_of_ble_eq_true rfl) ⟨by decide, by decide⟩ (by decide) (by decide) ?_
        refine aw_ifb_eq (tg := 34) dX9_machineOf_27 (by decide) (fun c27 => ?_) (fun c27 => absurd c27 (by exact fun h8 => hm (by rw [← h6]; exact h8)))
        refine aw_iconst dX9_machineOf_34 ?_
        exact aw_iret dX9_machineOf_35 rfl (by exact congrArg (fun z => (Sum.inl (some (hb_i z)) : hb_O)) (by omega)) rfl rfl (by decide) (by decide)
      · have h6 : hb_tp (G 71) n (G 71 v) = hb_tp (G 71) 4 t := by rw [← h3]; conv => rhs; unfold hb_tp; rw [if_neg h4]
        refine aw_ald0 dX9_machineOf_2 ?_
        refine aw_getf dX9_machineOf_3 hbf_X9_80 rfl rfl ?_
        refine aw_ild2 dX9_machineOf_6 ?_
        refine aw_iald dX9_machineOf_7 rfl (by constructor <;> omega) (by decide) ?_
        refine aw_iconst dX9_machineOf_8 ?_
        refine aw_icmp_eq (tg := 22) dX9_machineOf_9 (by decide) (by first | exact hG _ _ | assumption | (constructor <;> omega)) (by first | exact hG _ _ | assumption | (constructor <;> omega)) (fun c9 => absurd c9 (by omega)) (fun c9 => ?_)
        refine aw_ald0 dX9_machineOf_12 ?_
        refine aw_getf dX9_machineOf_13 hbf_X9_80 rfl rfl ?_
        refine aw_ild2 dX9_machineOf_16 ?_
        refine aw_iald dX9_machineOf_17 rfl (by constructor <;> omega) (by decide) ?_
        refine aw_ist2 dX9_machineOf_18 (by decide) ?_
        refine aw_goto (tg := 2) dX9_machineOf_19 (by decide) ?_
        exact ih _ (h1.resolve_left h4) (by omega) h6
  refine aw_ild1 dX9_machineOf_0 ?_
  refine aw_ipu2 dX9_machineOf_1 (by decide) ?_
  exact key 4 t (hen t ht) ht rfl
