theorem hb_ov_one {h : hb_H} {q : Nat} {c : hb_C} (hj : ∀ p, q < p → h p = hb_junk) : hb_up h q c = hb_ov h q [c] := by
  funext p
  rcases Nat.lt_trichotomy p q with h1 | h1 | h1
  · rw [hb_up_n (by omega), hb_ov_lt h1]
  · subst h1; rw [hb_up_s, hb_ov_ge (Nat.le_refl _), Nat.sub_self]; rfl
  · rw [hb_up_n (by omega), hb_ov_ge (by omega), hj p h1, List.getElem?_eq_none (by show 1 ≤ _; omega)]; rfl
def hb_G0 : hb_G := fun p => match p with
  | 2 => hb_fl (fun _ => 0) 48 (-1)
  | 7 => hb_fl (fun _ => 0) 40 (-1)
  | 13 => hb_fl (fun _ => 0) 16 (-1)
  | 20 => hb_fl (fun _ => 0) 8 (-1)
  | 32 => fun i => if i = 9 then -1 else 0
  | 48 => hb_fl (fun _ => 0) 48 (-1)
  | 51 => hb_fl (fun _ => 0) 40 (-1)
  | 55 => hb_fl (fun _ => 0) 16 (-1)
  | 58 => hb_fl (fun _ => 0) 8 (-1)
  | _ => fun _ => 0
def hb_F0 : hb_F := fun _ _ => none
theorem hb_w0 : hb_up (hb_ov (fun _ => hb_junk) 0 ([.inl (8, [hb_r 1, hb_r 6, hb_r 12, hb_r 19, hb_r 25, hb_r 32, hb_r 46]), .inl (2, [hb_r 2, hb_r 3]), .inr (.inl (0, 48, hb_fl (fun _ => 0) 48 (-1))), .inr (.inr (4, 2, fun i => some (3 + 1 + i.toNat))), .inr (.inl (0, 12, fun _ => 0)), .inr (.inl (0, 12, fun _ => 0)), .inl (6, [hb_r 1, hb_r 7, hb_r 8, hb_r 11, hb_i 0]), .inr (.inl (0, 40, hb_fl (fun _ => 0) 40 (-1))), .inr (.inr (4, 2, fun i => some (8 + 1 + i.toNat))), .inr (.inl (0, 40, fun _ => 0)), .inr (.inl (0, 40, fun _ => 0)), .inr (.inl (0, 40, fun _ => 0)), .inl (5, [hb_r 13, hb_r 14, hb_r 18]), .inr (.inl (0, 16, hb_fl (fun _ => 0) 16 (-1))), .inr (.inr (4, 3, fun i => some (14 + 1 + i.toNat))), .inr (.inl (0, 16, fun _ => 0)), .inr (.inl (0, 16, fun _ => 0)), .inr (.inl (0, 16, fun _ => 0)), .inr (.inl (0, 16, fun _ => 0)), .inl (3, [hb_r 20, hb_r 21, hb_r 22, hb_r 23, hb_r 24]), .inr (.inl (0, 8, hb_fl (fun _ => 0) 8 (-1))), .inr (.inl (0, 8, fun _ => 0)), .inr (.inl (0, 8, fun _ => 0)), .inr (.inl (0, 8, fun _ => 0)), .inr (.inl (0, 8, fun _ => 0)), .inl (0, [hb_r 26, hb_r 27, hb_r 28, hb_i 0, hb_i 0]), .inr (.inr (3, 200, fun _ => none)), .inr (.inr (3, 200, fun _ => none)), .inl (7, [hb_r 6, hb_r 1, hb_r 29, hb_r 30, hb_r 31]), .inr (.inl (0, 40, fun _ => 0)), .inr (.inl (0, 40, fun _ => 0)), .inr (.inl (0, 160, fun _ => 0)), .inl (4, [hb_r 6, hb_r 12, hb_r 19, hb_r 25, hb_r 33, hb_r 37, hb_r 40, hb_r 44, hb_r 45, hb_i (-1), hb_i 0]), .inl (7, [hb_r 6, hb_r 1, hb_r 34, hb_r 35, hb_r 36]), .inr (.inl (0, 40, fun _ => 0)), .inr (.inl (0, 40, fun _ => 0)), .inr (.inl (0, 160, fun _ => 0)), .inr (.inr (4, 2, fun i => some (37 + 1 + i.toNat))), .inr (.inl (0, 40, fun _ => 0)), .inr (.inl (0, 40, fun _ => 0)), .inr (.inr (4, 3, fun i => some (40 + 1 + i.toNat))), .inr (.inl (0, 640, fun _ => 0)), .inr (.inl (0, 640, fun _ => 0)), .inr (.inl (0, 640, fun _ => 0)), .inr (.inl (0, 40, fun _ => 0)), .inr (.inl (0, 40, fun _ => 0)), .inr (.inl (0, 640, fun _ => 0))] ++ [.inl (9, [hb_i 0, hb_r 48, hb_r 49, hb_r 50, hb_i 0, hb_r 51, hb_r 52, hb_r 53, hb_r 54, hb_r 55, hb_r 56, hb_r 57, hb_r 58, hb_r 59, hb_r 60, hb_r 61, hb_r 62, hb_i 0, hb_i 0, hb_r 63, hb_r 64, hb_r 65, hb_r 66, hb_r 67, hb_r 68, hb_r 69, hb_i 0, hb_r 70, hb_r 71, hb_r 72, hb_r 73, hb_r 74, hb_r 75]), .inr (.inl (0, 48, hb_fl (fun _ => 0) 48 (-1))), .inr (.inl (0, 12, fun _ => 0)), .inr (.inl (0, 12, fun _ => 0)), .inr (.inl (0, 40, hb_fl (fun _ => 0) 40 (-1))), .inr (.inl (0, 40, fun _ => 0)), .inr (.inl (0, 40, fun _ => 0)), .inr (.inl (0, 40, fun _ => 0)), .inr (.inl (0, 16, hb_fl (fun _ => 0) 16 (-1))), .inr (.inl (0, 48, fun _ => 0)), .inr (.inl (0, 16, fun _ => 0)), .inr (.inl (0, 8, hb_fl (fun _ => 0) 8 (-1))), .inr (.inl (0, 8, fun _ => 0)), .inr (.inl (0, 8, fun _ => 0)), .inr (.inl (0, 8, fun _ => 0)), .inr (.inl (0, 8, fun _ => 0)), .inr (.inl (0, 201, fun _ => 0)), .inr (.inl (1, 201, fun _ => 0)), .inr (.inl (0, 201, fun _ => 0)), .inr (.inl (0, 201, fun _ => 0)), .inr (.inl (0, 201, fun _ => 0)), .inr (.inl (0, 201, fun _ => 0)), .inr (.inl (0, 201, fun _ => 0)), .inr (.inl (0, 201, fun _ => 0)), .inr (.inl (0, 40, fun _ => 0)), .inr (.inl (0, 40, fun _ => 0)), .inr (.inl (0, 8040, fun _ => 0)), .inr (.inl (0, 3, fun _ => 0)), .inr (.inl (0, 640, fun _ => 0))])) 76 (.inr (.inl (2, 1, fun _ => 0))) = hb_w hb_G0 hb_F0 0 := by
  funext p
  by_cases hp : p < 77
  · match p, hp with
    | 0, _ => rfl
    | 1, _ => rfl
    | 2, _ => rfl
    | 3, _ => rfl
    | 4, _ => rfl
    | 5, _ => rfl
    | 6, _ => rfl
    | 7, _ => rfl
    | 8, _ => rfl
    | 9, _ => rfl
    | 10, _ => rfl
    | 11, _ => rfl
    | 12, _ => rfl
    | 13, _ => rfl
    | 14, _ => rfl
    | 15, _ => rfl
    | 16, _ => rfl
    | 17, _ => rfl
    | 18, _ => rfl
    | 19, _ => rfl
    | 20, _ => rfl
    | 21, _ => rfl
    | 22, _ => rfl
    | 23, _ => rfl
    | 24, _ => rfl
    | 25, _ => rfl
    | 26, _ => rfl
    | 27, _ => rfl
    | 28, _ => rfl
    | 29, _ => rfl
    | 30, _ => rfl
    | 31, _ => rfl
    | 32, _ => rfl
    | 33, _ => rfl
    | 34, _ => rfl
    | 35, _ => rfl
    | 36, _ => rfl
    | 37, _ => rfl
    | 38, _ => rfl
    | 39, _ => rfl
    | 40, _ => rfl
    | 41, _ => rfl
    | 42, _ => rfl
    | 43, _ => rfl
    | 44, _ => rfl
    | 45, _ => rfl
    | 46, _ => rfl
    | 47, _ => rfl
    | 48, _ => rfl
    | 49, _ => rfl
    | 50, _ => rfl
    | 51, _ => rfl
    | 52, _ => rfl
    | 53, _ => rfl
    | 54, _ => rfl
    | 55, _ => rfl
    | 56, _ => rfl
    | 57, _ => rfl
    | 58, _ => rfl
    | 59, _ => rfl
    | 60, _ => rfl
    | 61, _ => rfl
    | 62, _ => rfl
    | 63, _ => rfl
    | 64, _ => rfl
    | 65, _ => rfl
    | 66, _ => rfl
    | 67, _ => rfl
    | 68, _ => rfl
    | 69, _ => rfl
    | 70, _ => rfl
    | 71, _ => rfl
    | 72, _ => rfl
    | 73, _ => rfl
    | 74, _ => rfl
    | 75, _ => rfl
    | 76, _ => rfl
    | p + 77, hp => exact absurd hp (by omega)
  · rw [hb_up_n (by omega), hb_ov_ge (by omega), List.getElem?_eq_none (by show 76 ≤ _; omega)]
    show hb_junk = if (Nat.ble 77 p && !(Nat.blt p (77 + 0))) = true then hb_junk else _
    have e1 : Nat.ble 77 p = true := Nat.ble_eq.mpr (by omega)
    have e2 : Nat.blt p (77 + 0) = false := by
      cases e : Nat.blt p (77 + 0) with
      | false => rfl
      | true => have := Nat.ble_eq.mp e; omega
    rw [e1, e2]
    rfl
theorem law_start {l : Launch} {I : hb_I} {nm : String} {tb : List ExceptionTableEntry} {E : hb_E} {z0 : Heap} {σ0 : Nat → Nat} {L : Nat} {f : Int → Int} (hS : hb_SC E z0 σ0 L f) (hst : hb_Steps l I) (hI : I hb_G0 hb_F0 0) : ∃ h' N', hb_LW l nm tb E z0 σ0 h' N' 0 0 0 [hb_r 1000000] [] (fun _ => hb_junk) 0 := by
  have hL := hS.1
  obtain ⟨h', N', k⟩ := law_loop (nm := nm) (tb := tb) hS hst 512 hb_G0 hb_F0 0 77 14769 0 (by omega) (by omega) (by omega) (by decide) (by decide) (by omega) hI
  refine ⟨h', N', ?_⟩
  refine aw_h (h2 := hb_ov (fun _ => hb_junk) 0 []) (by funext p; rw [hb_ov_ge (by omega)]; rfl) ?_
  refine aw_new (ci := 8) (fs := [hb_n, hb_n, hb_n, hb_n, hb_n, hb_n, hb_n]) dL_law_0 rfl tyX8 tyX8_ok hbW_X8 hbc_L_8 hbx_inst_RX8 hbY_X8_init.2.1 rfl hbD_X8 (by intro p hp; simp at hp) (by decide) (by decide) (by intro p hp; simp at hp <;> omega) (by intro p hp; simp at hp <;> omega) ?_
  refine aw_h (h2 := hb_ov (fun _ => hb_junk) 0 [.inl (8, [hb_n, hb_n, hb_n, hb_n, hb_n, hb_n, hb_n])]) (hb_ov_new rfl) ?_
  refine aw_dup dL_law_3 rfl ?_
  refine aw_I0n dL_law_4 c_bookInit hbY_X8_init hbm_L_39 hbi_X8_init rfl (by decide) ⟨by decide, by decide⟩ (by decide) (by decide) (by intro p hp; simp at hp <;> omega) (by intro p hp; simp at hp <;> omega) ?_
  refine aw_apu1 dL_law_7 (by decide) ?_
  refine aw_new (ci := 9) (fs := [hb_i 0, hb_n, hb_n, hb_n, hb_i 0, hb_n, hb_n, hb_n, hb_n, hb_n, hb_n, hb_n, hb_n, hb_n, hb_n, hb_n, hb_n, hb_i 0, hb_i 0, hb_n, hb_n, hb_n, hb_n, hb_n, hb_n, hb_n, hb_i 0, hb_n, hb_n, hb_n, hb_n, hb_n, hb_n]) dL_law_8 rfl tyX9 tyX9_ok hbW_X9 hbc_L_40 hbx_inst_RX9 hbY_X9_init.2.1 rfl hbD_X9 (by intro p hp; simp at hp) (by decide) (by decide) (by intro p hp; simp at hp <;> omega) (by intro p hp; simp at hp <;> omega) ?_
  refine aw_h (h2 := hb_ov (hb_ov (fun _ => hb_junk) 0 [.inl (8, [hb_r 1, hb_r 6, hb_r 12, hb_r 19, hb_r 25, hb_r 32, hb_r 46]), .inl (2, [hb_r 2, hb_r 3]), .inr (.inl (0, 48, hb_fl (fun _ => 0) 48 (-1))), .inr (.inr (4, 2, fun i => some (3 + 1 + i.toNat))), .inr (.inl (0, 12, fun _ => 0)), .inr (.inl (0, 12, fun _ => 0)), .inl (6, [hb_r 1, hb_r 7, hb_r 8, hb_r 11, hb_i 0]), .inr (.inl (0, 40, hb_fl (fun _ => 0) 40 (-1))), .inr (.inr (4, 2, fun i => some (8 + 1 + i.toNat))), .inr (.inl (0, 40, fun _ => 0)), .inr (.inl (0, 40, fun _ => 0)), .inr (.inl (0, 40, fun _ => 0)), .inl (5, [hb_r 13, hb_r 14, hb_r 18]), .inr (.inl (0, 16, hb_fl (fun _ => 0) 16 (-1))), .inr (.inr (4, 3, fun i => some (14 + 1 + i.toNat))), .inr (.inl (0, 16, fun _ => 0)), .inr (.inl (0, 16, fun _ => 0)), .inr (.inl (0, 16, fun _ => 0)), .inr (.inl (0, 16, fun _ => 0)), .inl (3, [hb_r 20, hb_r 21, hb_r 22, hb_r 23, hb_r 24]), .inr (.inl (0, 8, hb_fl (fun _ => 0) 8 (-1))), .inr (.inl (0, 8, fun _ => 0)), .inr (.inl (0, 8, fun _ => 0)), .inr (.inl (0, 8, fun _ => 0)), .inr (.inl (0, 8, fun _ => 0)), .inl (0, [hb_r 26, hb_r 27, hb_r 28, hb_i 0, hb_i 0]), .inr (.inr (3, 200, fun _ => none)), .inr (.inr (3, 200, fun _ => none)), .inl (7, [hb_r 6, hb_r 1, hb_r 29, hb_r 30, hb_r 31]), .inr (.inl (0, 40, fun _ => 0)), .inr (.inl (0, 40, fun _ => 0)), .inr (.inl (0, 160, fun _ => 0)), .inl (4, [hb_r 6, hb_r 12, hb_r 19, hb_r 25, hb_r 33, hb_r 37, hb_r 40, hb_r 44, hb_r 45, hb_i (-1), hb_i 0]), .inl (7, [hb_r 6, hb_r 1, hb_r 34, hb_r 35, hb_r 36]), .inr (.inl (0, 40, fun _ => 0)), .inr (.inl (0, 40, fun _ => 0)), .inr (.inl (0, 160, fun _ => 0)), .inr (.inr (4, 2, fun i => some (37 + 1 + i.toNat))), .inr (.inl (0, 40, fun _ => 0)), .inr (.inl (0, 40, fun _ => 0)), .inr (.inr (4, 3, fun i => some (40 + 1 + i.toNat))), .inr (.inl (0, 640, fun _ => 0)), .inr (.inl (0, 640, fun _ => 0)), .inr (.inl (0, 640, fun _ => 0)), .inr (.inl (0, 40, fun _ => 0)), .inr (.inl (0, 40, fun _ => 0)), .inr (.inl (0, 640, fun _ => 0))]) 47 [.inl (9, [hb_i 0, hb_n, hb_n, hb_n, hb_i 0, hb_n, hb_n, hb_n, hb_n, hb_n, hb_n, hb_n, hb_n, hb_n, hb_n, hb_n, hb_n, hb_i 0, hb_i 0, hb_n, hb_n, hb_n, hb_n, hb_n, hb_n, hb_n, hb_i 0, hb_n, hb_n, hb_n, hb_n, hb_n, hb_n])]) (hb_ov_one (fun p hp => by rw [hb_ov_ge (by omega), List.getElem?_eq_none (by show 47 ≤ _; omega)]; rfl)) ?_
  refine aw_dup dL_law_11 rfl ?_
  refine aw_I0n dL_law_12 c_modelInit hbY_X9_init hbm_L_42 hbi_X9_init rfl (by decide) ⟨by decide, by decide⟩ (by decide) (by decide) (by intro p hp; simp at hp <;> omega) (by intro p hp; simp at hp <;> omega) ?_
  refine aw_h (h2 := hb_ov (fun _ => hb_junk) 0 ([.inl (8, [hb_r 1, hb_r 6, hb_r 12, hb_r 19, hb_r 25, hb_r 32, hb_r 46]), .inl (2, [hb_r 2, hb_r 3]), .inr (.inl (0, 48, hb_fl (fun _ => 0) 48 (-1))), .inr (.inr (4, 2, fun i => some (3 + 1 + i.toNat))), .inr (.inl (0, 12, fun _ => 0)), .inr (.inl (0, 12, fun _ => 0)), .inl (6, [hb_r 1, hb_r 7, hb_r 8, hb_r 11, hb_i 0]), .inr (.inl (0, 40, hb_fl (fun _ => 0) 40 (-1))), .inr (.inr (4, 2, fun i => some (8 + 1 + i.toNat))), .inr (.inl (0, 40, fun _ => 0)), .inr (.inl (0, 40, fun _ => 0)), .inr (.inl (0, 40, fun _ => 0)), .inl (5, [hb_r 13, hb_r 14, hb_r 18]), .inr (.inl (0, 16, hb_fl (fun _ => 0) 16 (-1))), .inr (.inr (4, 3, fun i => some (14 + 1 + i.toNat))), .inr (.inl (0, 16, fun _ => 0)), .inr (.inl (0, 16, fun _ => 0)), .inr (.inl (0, 16, fun _ => 0)), .inr (.inl (0, 16, fun _ => 0)), .inl (3, [hb_r 20, hb_r 21, hb_r 22, hb_r 23, hb_r 24]), .inr (.inl (0, 8, hb_fl (fun _ => 0) 8 (-1))), .inr (.inl (0, 8, fun _ => 0)), .inr (.inl (0, 8, fun _ => 0)), .inr (.inl (0, 8, fun _ => 0)), .inr (.inl (0, 8, fun _ => 0)), .inl (0, [hb_r 26, hb_r 27, hb_r 28, hb_i 0, hb_i 0]), .inr (.inr (3, 200, fun _ => none)), .inr (.inr (3, 200, fun _ => none)), .inl (7, [hb_r 6, hb_r 1, hb_r 29, hb_r 30, hb_r 31]), .inr (.inl (0, 40, fun _ => 0)), .inr (.inl (0, 40, fun _ => 0)), .inr (.inl (0, 160, fun _ => 0)), .inl (4, [hb_r 6, hb_r 12, hb_r 19, hb_r 25, hb_r 33, hb_r 37, hb_r 40, hb_r 44, hb_r 45, hb_i (-1), hb_i 0]), .inl (7, [hb_r 6, hb_r 1, hb_r 34, hb_r 35, hb_r 36]), .inr (.inl (0, 40, fun _ => 0)), .inr (.inl (0, 40, fun _ => 0)), .inr (.inl (0, 160, fun _ => 0)), .inr (.inr (4, 2, fun i => some (37 + 1 + i.toNat))), .inr (.inl (0, 40, fun _ => 0)), .inr (.inl (0, 40, fun _ => 0)), .inr (.inr (4, 3, fun i => some (40 + 1 + i.toNat))), .inr (.inl (0, 640, fun _ => 0)), .inr (.inl (0, 640, fun _ => 0)), .inr (.inl (0, 640, fun _ => 0)), .inr (.inl (0, 40, fun _ => 0)), .inr (.inl (0, 40, fun _ => 0)), .inr (.inl (0, 640, fun _ => 0))] ++ [.inl (9, [hb_i 0, hb_r 48, hb_r 49, hb_r 50, hb_i 0, hb_r 51, hb_r 52, hb_r 53, hb_r 54, hb_r 55, hb_r 56, hb_r 57, hb_r 58, hb_r 59, hb_r 60, hb_r 61, hb_r 62, hb_i 0, hb_i 0, hb_r 63, hb_r 64, hb_r 65, hb_r 66, hb_r 67, hb_r 68, hb_r 69, hb_i 0, hb_r 70, hb_r 71, hb_r 72, hb_r 73, hb_r 74, hb_r 75]), .inr (.inl (0, 48, hb_fl (fun _ => 0) 48 (-1))), .inr (.inl (0, 12, fun _ => 0)), .inr (.inl (0, 12, fun _ => 0)), .inr (.inl (0, 40, hb_fl (fun _ => 0) 40 (-1))), .inr (.inl (0, 40, fun _ => 0)), .inr (.inl (0, 40, fun _ => 0)), .inr (.inl (0, 40, fun _ => 0)), .inr (.inl (0, 16, hb_fl (fun _ => 0) 16 (-1))), .inr (.inl (0, 48, fun _ => 0)), .inr (.inl (0, 16, fun _ => 0)), .inr (.inl (0, 8, hb_fl (fun _ => 0) 8 (-1))), .inr (.inl (0, 8, fun _ => 0)), .inr (.inl (0, 8, fun _ => 0)), .inr (.inl (0, 8, fun _ => 0)), .inr (.inl (0, 8, fun _ => 0)), .inr (.inl (0, 201, fun _ => 0)), .inr (.inl (1, 201, fun _ => 0)), .inr (.inl (0, 201, fun _ => 0)), .inr (.inl (0, 201, fun _ => 0)), .inr (.inl (0, 201, fun _ => 0)), .inr (.inl (0, 201, fun _ => 0)), .inr (.inl (0, 201, fun _ => 0)), .inr (.inl (0, 201, fun _ => 0)), .inr (.inl (0, 40, fun _ => 0)), .inr (.inl (0, 40, fun _ => 0)), .inr (.inl (0, 8040, fun _ => 0)), .inr (.inl (0, 3, fun _ => 0)), .inr (.inl (0, 640, fun _ => 0))])) (hb_ov_app rfl) ?_
  refine aw_apu2 dL_law_15 (by decide) ?_
  refine aw_iconst dL_law_16 ?_
  refine aw_newa (kd := 2) (n := 1) dL_law_17 (by decide) rfl rfl hbx_arrayClass__long (fun U cA h9 => h9) (by decide) (by decide) (by decide) (by decide) (by intro p hp; simp at hp <;> omega) (by intro p hp; simp at hp <;> omega) ?_
  refine aw_h (h2 := hb_w hb_G0 hb_F0 0) hb_w0 ?_
  refine aw_apu3 dL_law_19 (by decide) ?_
  refine aw_iconst dL_law_20 ?_
  refine aw_ipu4 dL_law_21 (by decide) ?_
  exact k
theorem hb_Bs {s : State} {b : Nat} (hts : ∀ w ∈ lw_tbl, w.before #[Value.ref b] s = true) (hgv : (Jvm.Cond.and given_1 narrow_1).before #[Value.ref b] s = true) : hb_B s.heap s := by
  have hs := flat_of_before _ hgv
  have hA : ∀ a : Nat, a < s.heap.size → ¬ (s.heap.size ≤ a) := fun a h1 h2 => by omega
  have st : ∀ (k : Nat) (tx : String), Cond.stringRef RX8 k tx ∈ lw_tbl → (Cond.exactly (.string RX8 k) "java/lang/String").before #[Value.ref b] s = true → ∃ a, vk_R RX8 k tx a s := by
    intro k tx h1 h2
    obtain ⟨a, c, cell, kk, q1, -⟩ := Cond.exactly_spec h2
    exact ⟨a, vk_R.of (hts _ h1) q1⟩
  have w : ∀ w : Cond, w.onTables = true → w ∈ lw_tbl → va_Nw w s := fun w h1 h2 => va_Nw.of h1 (hts w h2)
  refine ⟨⟨vx_Zqof (hts _ (by decide +kernel)) (hts _ (by decide +kernel)) (hs _ (by decide +kernel)) hA, w _ rfl (by decide +kernel), w _ rfl (by decide +kernel), w _ rfl (by decide +kernel), w _ rfl (by decide +kernel), w _ rfl (by decide +kernel), va_Nc.of (hs _ (by decide +kernel)), hts (.arrayOver (.array .int)) (by decide +kernel), hts (.arrayOver (.object "HangarBook$Entry")) (by decide +kernel)⟩, vx_Zqof (hts _ (by decide +kernel)) (hts _ (by decide +kernel)) (hs _ (by decide +kernel)) hA, st _ _ (by decide +kernel) (hs _ (by decide +kernel)), st _ _ (by decide +kernel) (hs _ (by decide +kernel)), st _ _ (by decide +kernel) (hs _ (by decide +kernel)), w _ rfl (by decide +kernel), w _ rfl (by decide +kernel), w _ rfl (by decide +kernel), w _ rfl (by decide +kernel)⟩
theorem hb_Ks {s : State} {b : Nat} (hts : ∀ w ∈ lw_tbl, w.before #[Value.ref b] s = true) {cs : ClassId} (h5 : ArrOfT s cs .int) : ∃ E : hb_E, E.2 5 = cs ∧ hb_K E s := by
  obtain ⟨c0, i0, k0⟩ := u_known (C := RX0) (T := TX0) (N := 5) (n := 5) hts (fun w h => (List.mem_filter.mp (hbW_X0 w h)).1) (hts _ (List.mem_filter.mp hbx_inst_RX0).1)
  obtain ⟨c1, i1, k1⟩ := u_known (C := RX1) (T := TX1) (N := 9) (n := 9) hts (fun w h => (List.mem_filter.mp (hbW_X1 w h)).1) (hts _ (List.mem_filter.mp hbx_inst_RX1).1)
  obtain ⟨c2, i2, k2⟩ := u_known (C := RX2) (T := TX2) (N := 2) (n := 2) hts (fun w h => (List.mem_filter.mp (hbW_X2 w h)).1) (hts _ (List.mem_filter.mp hbx_inst_RX2).1)
  obtain ⟨c3, i3, k3⟩ := u_known (C := RX3) (T := TX3) (N := 5) (n := 5) hts (fun w h => (List.mem_filter.mp (hbW_X3 w h)).1) (hts _ (List.mem_filter.mp hbx_inst_RX3).1)
  obtain ⟨c4, i4, k4⟩ := u_known (C := RX4) (T := TX4) (N := 11) (n := 11) hts (fun w h => (List.mem_filter.mp (hbW_X4 w h)).1) (hts _ (List.mem_filter.mp hbx_inst_RX4).1)
  obtain ⟨c5, i5, k5⟩ := u_known (C := RX5) (T := TX5) (N := 3) (n := 3) hts (fun w h => (List.mem_filter.mp (hbW_X5 w h)).1) (hts _ (List.mem_filter.mp hbx_inst_RX5).1)
  obtain ⟨c6, i6, k6⟩ := u_known (C := RX6) (T := TX6) (N := 5) (n := 5) hts (fun w h => (List.mem_filter.mp (hbW_X6 w h)).1) (hts _ (List.mem_filter.mp hbx_inst_RX6).1)
  obtain ⟨c7, i7, k7⟩ := u_known (C := RX7) (T := TX7) (N := 5) (n := 5) hts (fun w h => (List.mem_filter.mp (hbW_X7 w h)).1) (hts _ (List.mem_filter.mp hbx_inst_RX7).1)
  obtain ⟨c8, i8, k8⟩ := u_known (C := RX8) (T := TX8) (N := 7) (n := 7) hts (fun w h => (List.mem_filter.mp (hbW_X8 w h)).1) (hts _ (List.mem_filter.mp hbx_inst_RX8).1)
  obtain ⟨c9, i9, k9⟩ := u_known (C := RX9) (T := TX9) (N := 33) (n := 33) hts (fun w h => (List.mem_filter.mp (hbW_X9 w h)).1) (hts _ (List.mem_filter.mp hbx_inst_RX9).1)
  obtain ⟨a0, ka0, cp0, fa0, ga0, ja0⟩ := Cond.arrayClass_spec (hts _ (List.mem_filter.mp hbx_arrayClass__int).1)
  obtain ⟨a1, ka1, cp1, fa1, ga1, ja1⟩ := Cond.arrayClass_spec (hts _ (List.mem_filter.mp hbx_arrayClass__boolean).1)
  obtain ⟨a2, ka2, cp2, fa2, ga2, ja2⟩ := Cond.arrayClass_spec (hts _ (List.mem_filter.mp hbx_arrayClass__long).1)
  obtain ⟨cp3, a3, ka3, fc3, -, ga3, ja3, fa3⟩ := Cond.arrayOver_spec (n := "HangarBook$Entry") (hts (.arrayOver (.object "HangarBook$Entry")) (by decide +kernel))
  obtain ⟨cp4, a4, ka4, fc4, -, ga4, ja4, fa4⟩ := arrayOver_specB (t := .int) (hts (.arrayOver (.array .int)) (by decide +kernel))
  refine ⟨((fun k => match k with | 0 => c0 | 1 => c1 | 2 => c2 | 3 => c3 | 4 => c4 | 5 => c5 | 6 => c6 | 7 => c7 | 8 => c8 | 9 => c9 | _ => c0, fun k => match k with | 0 => i0 | 1 => i1 | 2 => i2 | 3 => i3 | 4 => i4 | 5 => i5 | 6 => i6 | 7 => i7 | 8 => i8 | 9 => i9 | _ => i0), fun k => match k with | 0 => a0 | 1 => a1 | 2 => a2 | 3 => a3 | 4 => a4 | _ => cs), rfl, ⟨?_, fun k q h => by simp at h⟩, ?_⟩
  · intro k q hq
    match k, hq with
    | 0, hq => cases hq; exact k0
    | 1, hq => cases hq; exact k1
    | 2, hq => cases hq; exact k2
    | 3, hq => cases hq; exact k3
    | 4, hq => cases hq; exact k4
    | 5, hq => cases hq; exact k5
    | 6, hq => cases hq; exact k6
    | 7, hq => cases hq; exact k7
    | 8, hq => cases hq; exact k8
    | 9, hq => cases hq; exact k9
    | k + 10, hq => exact absurd hq (by simp [vwCl])
  · intro k hk
    match k, hk with
    | 0, _ => exact ⟨fun n z => ⟨fun k h => (by cases h), ka0, ga0, cp0, ja0⟩, fa0, h5⟩
    | 1, _ => exact ⟨fun n z => ⟨fun k h => (by cases h), ka1, ga1, cp1, ja1⟩, fa1, h5⟩
    | 2, _ => exact ⟨fun n z => ⟨fun k h => (by cases h), ka2, ga2, cp2, ja2⟩, fa2, h5⟩
    | 3, _ => exact ⟨fun n z => ⟨fun k h => (by cases h), ka3, ga3, cp3, ja3⟩, ⟨ka3, cp3, ga3, ja3, fc3, fa3⟩, h5⟩
    | 4, _ => exact ⟨fun n z => ⟨fun k h => (by cases h), ka4, ga4, cp4, ja4⟩, fa4, h5⟩
    | k + 5, hk => exact absurd hk (by omega)
theorem whole_at {p : Program} {e : Env} {s : State} {m : MethodId} {below : List Frame} {meth : Method} {c : Code} (l : Launch) {I : hb_I} (hst : hb_Steps l I) (hI : I hb_G0 hb_F0 0) {b L : Nat} {xs : Nat → Int32} (hL : L ≤ 3072) (C0 : lw_At p s m meth c b L xs) : W p l e room_1 s m #[Value.ref b] below meth c s.heap [] 0 0 (lw_Z below #[Value.ref b] s) (entryFrame m ([Value.ref b] : List Value).toArray 7) := by
  obtain ⟨hx, hb, hr, hml, hown, hts, ⟨scr, x1, x2, x3, x4, x5⟩, hbl, hlk, hgv⟩ := C0
  obtain ⟨E, hE5, hK⟩ := hb_Ks hts (cs := scr.cls) (fun n z => ⟨fun k h => (by cases h), x2.2⟩)
  have hB := hb_Bs hts hgv
  have hS : hb_SC E s.heap (fun _ => b) L (fun i => (xs i.toNat).toInt) := by
    refine ⟨hL, fun i => ⟨Int32.le_toInt _, Int.le_of_lt_add_one (Int32.toInt_lt _)⟩, hbl, scr, x1, fun U hU => ⟨x2.1, ?_⟩, x3, x4, fun j hj => ?_⟩
    · have := ((hU.2 0 (by decide)).2.2 0 (fun _ => .null)).2
      rw [hE5] at this
      exact this
    · rw [x5 j hj]
      show _ = some (Value.int (Int32.ofInt (xs ((j : Int).toNat)).toInt))
      rw [Int32.ofInt_toInt]
      rfl
  obtain ⟨h', N', k⟩ := law_start (nm := meth.name) (tb := c.exceptionTable.toList) hS hst hI
  have hl := lv_entry ([.ref b]) (n := 7) (Nat.le_of_ble_eq_true rfl)
  rw [lg_entry_eq]
  have hl2 : ((lg_sl ([.ref b]) ++ List.replicate (7 - (lg_sl ([.ref b])).length) Slot.unset).toArray)[0]? = some (.val (.ref b)) := rfl
  generalize (lg_sl ([.ref b]) ++ List.replicate (7 - (lg_sl ([.ref b])).length) Slot.unset).toArray = lr at hl hl2 ⊢
  have K := k p e s m #[Value.ref b] below meth c ⟨hx, hb, hml, hown, fun w hw => hts w (List.mem_filter.mp hw).1, hK, hB, hlk, hr, rfl, rfl, Nat.le_refl _, fun _ _ => rfl⟩ (fun _ => b) s.heap [] lr ⟨⟨Nat.le_refl _, fun _ _ => rfl⟩, fun p hp => absurd hp (by omega), fun p q hp => absurd hp (by omega), fun _ _ => rfl⟩ hb_ex.rf (fun _ h9 => nomatch h9) ⟨hl.1, hl.2.1, fun v hv => by rw [List.mem_singleton.mp hv]; rfl, fun k v hk => by
    match k, hk with
    | 0, hk => cases hk; exact hl2
    | k + 1, hk => simp at hk⟩
  intro T hT X
  obtain ⟨t, a1, o9, b1, b2, b3⟩ := K T hT X
  refine ⟨t, a1, o9, b1, b2, ?_⟩
  rcases b3 with ⟨⟨v, σ', ho, hoc, -⟩, L9, hF, hL9⟩ | ⟨q, -, E9, ce, L9, ⟨σ', ho, -⟩, -⟩
  · cases Sum.inl.inj ho
    exact ⟨hoc, hF.1, hF.2.1, State.sameButNew.drop_fresh (L := []) hF.2.2 hL9⟩
  · cases ho
