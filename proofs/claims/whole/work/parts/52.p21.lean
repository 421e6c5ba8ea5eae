/-! at, counter, due, asked -/
theorem bk_I0 {D H : hb_G} {F : hb_F} {na n : Nat} {xs : List Nat} {ob : Nat → Nat} (h1 : bk_J D H F na n xs ob) (h2 : bk_sh D H xs) (h3 : hb_rg H) (h4 : hb_bn H) : bk_I (hb_u2 H 47 0 0) F na := ⟨D, n, xs, ob, h1.kz bk_kz_0, bk_sh_c h2 (fun p hp => hb_u2_n (by omega)), h3.u2 (by decide), bk_bn_c (fun p hp => hb_u2_n (by omega)) h4⟩
theorem bk_J_a {D H : hb_G} {F : hb_F} {na n : Nat} {xs : List Nat} {ob : Nat → Nat} (hJ : bk_J D H F na n xs ob) {a b : List Nat} (hx : xs = a ++ b) : (∀ f ∈ a.reverse, bk_vd D f) ∧ bk_LG D a.reverse := by
  refine ⟨fun f hf => hJ.2.2.1.2.2.2.1 f (by rw [hx]; exact List.mem_append_left _ (List.mem_reverse.mp hf)), ?_⟩
  have := hJ.2.2.1.2.2.2.2.2.1
  rw [hx, List.reverse_append] at this
  exact bk_LG_a this
theorem bk_fd_2 {P : Nat → Prop} {c N : Nat} (hc : P c) (hu : ∀ d, d < N → P d → d = c) : ∀ {n j : Nat}, j ≤ c → c < j + n → j + n ≤ N → hb_fd P n j 0 = c
  | 0, j, h1, h2, _ => by omega
  | n + 1, j, h1, h2, h3 => by
    unfold hb_fd
    by_cases e : P j
    · rw [if_pos e, if_pos rfl, hu j (by omega) e]
    · rw [if_neg e]
      have : j ≠ c := fun h => e (h ▸ hc)
      exact bk_fd_2 hc hu (by omega) (by omega) (by omega)
theorem bk_hang {D H K : hb_G} {r : List Nat} (hS : bk_S1 D H r) (hrw : bk_rw D K) (hq : bk_tq D K r) (hv : ∀ f ∈ r, bk_vd D f) (hl : bk_LG D r) {t q : Int} (ht : 0 ≤ t ∧ t < 40) (hqq : 0 ≤ q ∧ q < 4) : H 36 (t * 4 + q) = hb_fd (hb_jh K t q) 40 0 0 := by
  obtain ⟨s1, s2, sTI⟩ := bk_S1_TI hS hv hl
  obtain ⟨t1, t2, tTI⟩ := bk_tq_TI hrw hq hv hl
  have hjh : ∀ c : Nat, c < 40 → (hb_jh K t q c ↔ (H 34 c = t ∧ H 35 c = q)) := fun c hc => by
    have hci : 0 ≤ (c : Int) ∧ (c : Int) < 40 := by omega
    unfold hb_jh
    rw [t1 _ hci, t2 _ hci, s1 _ hci, s2 _ hci, hrw 51 (by omega)]
    constructor
    · rintro ⟨-, h1, h2⟩; exact ⟨h1, h2⟩
    · rintro ⟨h1, h2⟩
      exact ⟨((bk_TR_TI hv hl).2.2.1 _ hci (by rw [h1]; omega)).2, h1, h2⟩
  rcases hS.2 t q ht hqq with ⟨h1, h2⟩ | ⟨h1, h2, h3⟩
  · rw [h1, eq_comm, bk_fd_n]
    intro c _ hc h
    have := (hjh c (by omega)).mp h
    exact h2 c (by omega) this
  · have hcn : (((H 36 (t * 4 + q)).toNat : Nat) : Int) = H 36 (t * 4 + q) := Int.toNat_of_nonneg h1.1
    have hu : ∀ dd : Nat, dd < 40 → hb_jh K t q dd → dd = (H 36 (t * 4 + q)).toNat := by
      intro dd hd hdd
      have h4 := (hjh dd hd).mp hdd
      have := sTI.2.2.2 dd (H 36 (t * 4 + q)) (by omega) h1 (by rw [h4.1]; omega) (by rw [h4.1, h2]) (by rw [h4.2, h3])
      omega
    rw [← hcn]
    exact (bk_fd_2 (N := 40) (c := (H 36 (t * 4 + q)).toNat) ((hjh _ (by omega)).mpr (by rw [hcn]; exact ⟨h2, h3⟩)) hu (Nat.zero_le _) (by omega) (by omega)).symm
theorem bk_tk2 {D G : hb_G} (hsl : bk_sl D G) (hrw : bk_rw D G) {k : Int} : (0 ≤ k ∧ k < 16 ∧ G 13 k ≠ -1) ↔ (0 ≤ k ∧ k < 16 ∧ hb_u2 G 47 0 0 55 k ≠ -1) := by
  show _ ↔ (0 ≤ k ∧ k < 16 ∧ G 55 k ≠ -1)
  rw [hrw 55 (by omega)]
  constructor <;> rintro ⟨h1, h2, h3⟩ <;> have h7 := (hsl.2.2.1 k ⟨h1, h2⟩).1
  · exact ⟨h1, h2, by rw [← h7]; exact h3⟩
  · exact ⟨h1, h2, by rw [h7]; exact h3⟩
theorem st_at {l : Launch} {t q p : Int} (it : hb_in t) (iq : hb_in q) (ip : hb_in p) : hb_stQ l bk_I yX8_at cX8_at 4 (some .int) yX9_at cX9_at 5 (some .int) [hb_i t, hb_i q, hb_i p] := by
  intro G F na hI
  obtain ⟨D, n, xs, ob, hJ, hsh, hG, hbn⟩ := hI
  have hth := bk_th hJ.2.2.1.2.1 hJ.1 (t := t)
  by_cases hP : (0 ≤ t ∧ t < 40 ∧ G 7 t ≠ -1) ∧ (0 ≤ q ∧ q < 4) ∧ (0 ≤ p ∧ p ≤ 3000099)
  · obtain ⟨H, a, b, hx, hp, hM, hS, hJ2, hsh2, hR, hB⟩ := bk_q (l := l) hJ hsh hG hbn hP.2.2
    have ht : 0 ≤ t ∧ t < 40 := ⟨hP.1.1, hP.1.2.1⟩
    obtain ⟨hva, hLa⟩ := bk_J_a hJ hx
    obtain ⟨K, k1, k2, k3, k4, k5, k6, k7⟩ := bk_qa (l := l) hJ2 hsh2 hR hB hP.2.2 hx hp
    have hPm : (0 ≤ t ∧ t < 40 ∧ hb_u2 H 47 0 0 51 t ≠ -1) ∧ (0 ≤ q ∧ q ≤ 3) ∧ (0 ≤ p ∧ p ≤ 3000099) := by
      refine ⟨⟨hP.1.1, hP.1.2.1, ?_⟩, by omega, hP.2.2⟩
      show H 51 t ≠ -1
      rw [hJ2.1 51 (by omega), ← (hJ.2.2.1.2.1.2.1 t ht).1]
      exact hP.1.2.2
    have h := c_mAtY it iq ip hPm k1 k6 hR
    rw [← bk_hang hS.1 k4.1 k2 hva hLa ht hP.2.1] at h
    exact ⟨_, H, K, 5, 4, hR _ _, by omega, by omega, c_atY it iq ip hP hM hR hG, h, ⟨D, n, xs, ob, k4, k5, k6, k7⟩⟩
  · exact ⟨-1, G, _, 5, 4, by decide, by omega, by omega, c_atN it iq ip hP hG, c_mAtN it iq ip (fun h => hP ⟨hth.mpr h.1, by omega, h.2.2⟩) hG, bk_I0 hJ hsh hG hbn⟩
/-- the class has shown a day's end; the reference stands behind its first word -/
theorem bk_qd {l : Launch} {D G : hb_G} {F : hb_F} {na n : Nat} {xs : List Nat} {ob : Nat → Nat} (hJ : bk_J D G F na n xs ob) (hsh : bk_sh D G xs) (hG : hb_rg G) (hbn : hb_bn G) {d : Int} (hd : 0 ≤ d ∧ d ≤ 30000) : ∃ (H : hb_G) (a b : List Nat), xs = a ++ b ∧ bk_pf D (100 * d + 99) a b ∧ hb_M l yX4_show cX4_show 2 none 4 0 0 [hb_r 32, hb_i (d * 100 + 100 - 1)] (hb_w G F na) (77 + na) (.inl none) (hb_w H F na) (77 + na) ∧ bk_SD D H a.reverse ∧ bk_J D H F na n xs ob ∧ bk_sh D H xs ∧ hb_rg H ∧ hb_bn H ∧ bk_V D H (hb_u2 H 47 0 0) n a b d := by
  obtain ⟨H, a, b, hx, hp, hM, hS, hJ2, hsh2, hR, hB⟩ := bk_q (l := l) hJ hsh hG hbn (pt := d * 100 + 100 - 1) (by omega)
  rw [show d * 100 + 100 - 1 = 100 * d + 99 by omega] at hp
  have hJ0 := hJ2.kz (bk_kz_0 (v := 0))
  exact ⟨H, a, b, hx, hp, hM, hS, hJ2, hsh2, hR, hB, bk_V_of hJ2 hS hJ0.1 hJ0.2.1 hJ0.2.2.2.1.2.1 hx hp hd⟩
theorem bk_thH {D G H : hb_G} (h7 : bk_sl D G) (hrw : bk_rw D H) {t : Int} (h : 0 ≤ t ∧ t < 40 ∧ G 7 t ≠ -1) : D 51 t ≠ -1 ∧ (0 ≤ t ∧ t < 40 ∧ hb_u2 H 47 0 0 51 t ≠ -1) := by
  have := (h7.2.1 t ⟨h.1, h.2.1⟩).1
  rw [this] at h
  refine ⟨h.2.2, h.1, h.2.1, ?_⟩
  show H 51 t ≠ -1
  rw [hrw 51 (by omega)]; exact h.2.2
theorem bk_tkH {D G H : hb_G} (h7 : bk_sl D G) (hrw : bk_rw D H) {k : Int} (h : 0 ≤ k ∧ k < 16 ∧ G 13 k ≠ -1) : D 55 k ≠ -1 ∧ (0 ≤ k ∧ k < 16 ∧ hb_u2 H 47 0 0 55 k ≠ -1) := by
  have := (h7.2.2.1 k ⟨h.1, h.2.1⟩).1
  rw [this] at h
  refine ⟨h.2.2, h.1, h.2.1, ?_⟩
  show H 55 k ≠ -1
  rw [hrw 55 (by omega)]; exact h.2.2
theorem st_counter {l : Launch} {t u d : Int} (it : hb_in t) (iu : hb_in u) (id : hb_in d) : hb_stQ l bk_I yX8_counter cX8_counter 4 (some .int) yX9_counter cX9_counter 4 (some .int) [hb_i t, hb_i u, hb_i d] := by
  intro G F na hI
  obtain ⟨D, n, xs, ob, hJ, hsh, hG, hbn⟩ := hI
  have hth := bk_th hJ.2.2.1.2.1 hJ.1 (t := t)
  by_cases hP : (0 ≤ t ∧ t < 40 ∧ G 7 t ≠ -1) ∧ (0 ≤ u ∧ u < 3) ∧ (0 ≤ d ∧ d ≤ 30000)
  · obtain ⟨H, a, b, hx, hp, hM, hS, hJ2, hsh2, hR, hB, hV⟩ := bk_qd (l := l) hJ hsh hG hbn hP.2.2
    have ht : 0 ≤ t ∧ t < 40 := ⟨hP.1.1, hP.1.2.1⟩
    obtain ⟨q1, q2⟩ := bk_thH hJ.2.2.1.2.1 hJ2.1 hP.1
    have h := c_mCounterY (l := l) (F := F) (na := na) it iu id ⟨q2, by omega, hP.2.2⟩ hV.2.2.2.1.2.2.1 hV.2.2.2.1.2.2.2 hR
    rw [bk_cj hV, ← bk_hcn hV ht q1 hP.2.1] at h
    have hb := bk_cv_b hV (u := u) ht
    exact ⟨_, H, _, 5, 2, by rw [bk_hcn hV ht q1 hP.2.1]; constructor <;> omega, by omega, by omega, c_counterY it iu id hP hM hR hG, h, bk_I0 hJ2 hsh2 hR hB⟩
  · exact ⟨0, G, _, 5, 2, by decide, by omega, by omega, c_counterN it iu id hP hG, c_mCounterN it iu id (fun h => hP ⟨hth.mpr h.1, by omega, h.2.2⟩) hG, bk_I0 hJ hsh hG hbn⟩
theorem st_due {l : Launch} {t k u d : Int} (it : hb_in t) (ik : hb_in k) (iu : hb_in u) (id : hb_in d) : hb_stQ l bk_I yX8_due cX8_due 5 (some .int) yX9_due cX9_due 5 (some .int) [hb_i t, hb_i k, hb_i u, hb_i d] := by
  intro G F na hI
  obtain ⟨D, n, xs, ob, hJ, hsh, hG, hbn⟩ := hI
  have hth := bk_th hJ.2.2.1.2.1 hJ.1 (t := t)
  have htk := bk_tk2 hJ.2.2.1.2.1 hJ.1 (k := k)
  by_cases hP : (0 ≤ t ∧ t < 40 ∧ G 7 t ≠ -1) ∧ (0 ≤ k ∧ k < 16 ∧ G 13 k ≠ -1) ∧ (0 ≤ u ∧ u < 3) ∧ (0 ≤ d ∧ d ≤ 30000)
  · have ht : 0 ≤ t ∧ t < 40 := ⟨hP.1.1, hP.1.2.1⟩
    have hk : 0 ≤ k ∧ k < 16 := ⟨hP.2.1.1, hP.2.1.2.1⟩
    have l3 := hJ.2.2.1.2.1.2.2.1 k hk
    have w56 := hJ.1 56 (by omega)
    have hP2 : (0 ≤ t ∧ t < 40 ∧ G 7 t ≠ -1) ∧ (0 ≤ k ∧ k < 16 ∧ G 13 k ≠ -1) ∧ (0 ≤ d ∧ d ≤ 30000) := ⟨hP.1, hP.2.1, hP.2.2.2⟩
    have hPm0 : (0 ≤ t ∧ t < 40 ∧ hb_u2 G 47 0 0 51 t ≠ -1) ∧ (0 ≤ k ∧ k < 16 ∧ hb_u2 G 47 0 0 55 k ≠ -1) ∧ (0 ≤ d ∧ d ≤ 30000) := ⟨hth.mp hP.1, htk.mp hP.2.1, hP.2.2.2⟩
    have hI0 := bk_I0 hJ hsh hG hbn
    obtain ⟨H, a, b, hx, hp, hM, hS, hJ2, hsh2, hR, hB, hV⟩ := bk_qd (l := l) hJ hsh hG hbn hP.2.2.2
    obtain ⟨q1, q2⟩ := bk_thH hJ.2.2.1.2.1 hJ2.1 hP.1
    obtain ⟨q3, q4⟩ := bk_tkH hJ.2.2.1.2.1 hJ2.1 hP.2.1
    have hI2 := bk_I0 hJ2 hsh2 hR hB
    have s3 := hS.2.2.1 t k ht hk q1 q3
    have hR0 : hb_rg (hb_u2 H 47 0 0) := hR.u2 (by decide)
    have w562 : hb_u2 H 47 0 0 56 = D 56 := hJ2.1 56 (by omega)
    have hPm : (0 ≤ t ∧ t < 40 ∧ hb_u2 H 47 0 0 51 t ≠ -1) ∧ (0 ≤ k ∧ k < 16 ∧ hb_u2 H 47 0 0 55 k ≠ -1) ∧ (0 ≤ d ∧ d ≤ 30000) := ⟨q2, q4, hP.2.2.2⟩
    rcases (show u = 0 ∨ u = 1 ∨ u = 2 by omega) with rfl | rfl | rfl
    · by_cases hz : G 15 k = 0
      · exact ⟨-1, G, _, 5, 2, by decide, by omega, by omega, c_dueZ0 it ik id hP2 hz hG, c_mDueZ0 it ik id hPm0 (by show G 56 _ = 0; rw [w56, ← l3.2.1]; exact hz) hG, hI0⟩
      · have h := c_mDueY0 it ik id hPm (by rw [w562, ← l3.2.1]; exact hz) (bk_dueAt (l := l) (F := F) (na := na) hV hR0 ht hk (u := 0) (by decide)) hR
        rw [← s3.1] at h
        exact ⟨_, H, _, 5, 2, hR _ _, by omega, by omega, c_dueY0 it ik id hP2 hz hM hR hG, h, hI2⟩
    · by_cases hz : G 16 k = 0
      · exact ⟨-1, G, _, 5, 2, by decide, by omega, by omega, c_dueZ1 it ik id hP2 hz hG, c_mDueZ1 it ik id hPm0 (by show G 56 _ = 0; rw [w56, ← l3.2.2.1]; exact hz) hG, hI0⟩
      · have h := c_mDueY1 it ik id hPm (by rw [w562, ← l3.2.2.1]; exact hz) (bk_dueAt (l := l) (F := F) (na := na) hV hR0 ht hk (u := 1) (by decide)) hR
        rw [← s3.2.1] at h
        exact ⟨_, H, _, 5, 2, hR _ _, by omega, by omega, c_dueY1 it ik id hP2 hz hM hR hG, h, hI2⟩
    · by_cases hz : G 17 k = 0
      · exact ⟨-1, G, _, 5, 2, by decide, by omega, by omega, c_dueZ2 it ik id hP2 hz hG, c_mDueZ2 it ik id hPm0 (by show G 56 _ = 0; rw [w56, ← l3.2.2.2.1]; exact hz) hG, hI0⟩
      · have h := c_mDueY2 it ik id hPm (by rw [w562, ← l3.2.2.2.1]; exact hz) (bk_dueAt (l := l) (F := F) (na := na) hV hR0 ht hk (u := 2) (by decide)) hR
        rw [← s3.2.2] at h
        exact ⟨_, H, _, 5, 2, hR _ _, by omega, by omega, c_dueY2 it ik id hP2 hz hM hR hG, h, hI2⟩
  · exact ⟨-1, G, _, 5, 2, by decide, by omega, by omega, c_dueN it ik iu id hP hG, c_mDueN it ik iu id (fun h => hP ⟨hth.mpr h.1, htk.mpr h.2.1, by omega, h.2.2.2⟩) hG, bk_I0 hJ hsh hG hbn⟩
theorem st_asked {l : Launch} {t k d : Int} (it : hb_in t) (ik : hb_in k) (id : hb_in d) : hb_stQ l bk_I yX8_asked cX8_asked 4 (some .int) yX9_asked cX9_asked 5 (some .int) [hb_i t, hb_i k, hb_i d] := by
  intro G F na hI
  obtain ⟨D, n, xs, ob, hJ, hsh, hG, hbn⟩ := hI
  have hth := bk_th hJ.2.2.1.2.1 hJ.1 (t := t)
  have htk := bk_tk2 hJ.2.2.1.2.1 hJ.1 (k := k)
  by_cases hP : (0 ≤ t ∧ t < 40 ∧ G 7 t ≠ -1) ∧ (0 ≤ k ∧ k < 16 ∧ G 13 k ≠ -1) ∧ (0 ≤ d ∧ d ≤ 30000)
  · have ht : 0 ≤ t ∧ t < 40 := ⟨hP.1.1, hP.1.2.1⟩
    have hk : 0 ≤ k ∧ k < 16 := ⟨hP.2.1.1, hP.2.1.2.1⟩
    obtain ⟨H, a, b, hx, hp, hM, hS, hJ2, hsh2, hR, hB, hV⟩ := bk_qd (l := l) hJ hsh hG hbn hP.2.2
    obtain ⟨q1, q2⟩ := bk_thH hJ.2.2.1.2.1 hJ2.1 hP.1
    obtain ⟨q3, q4⟩ := bk_tkH hJ.2.2.1.2.1 hJ2.1 hP.2.1
    have hI2 := bk_I0 hJ2 hsh2 hR hB
    have hR0 : hb_rg (hb_u2 H 47 0 0) := hR.u2 (by decide)
    have hPm : (0 ≤ t ∧ t < 40 ∧ hb_u2 H 47 0 0 51 t ≠ -1) ∧ (0 ≤ k ∧ k < 16 ∧ hb_u2 H 47 0 0 55 k ≠ -1) ∧ (0 ≤ d ∧ d ≤ 30000) := ⟨q2, q4, hP.2.2⟩
    have hak := bk_ak hV ht hk
    have hfo := bk_fo hV ht hk q1 q3
    have hO := bk_mod (l := l) (F := F) (na := na) hV hR0 ht hk
    by_cases ha : hb_ak H t k
    · by_cases ho : hb_fo H t k d 0 0 = d
      · rw [hb_bt (hfo.mp ho)] at hO
        exact ⟨2, H, _, 5, 3, by decide, by omega, by omega, c_asked2 it ik id hP hM hR ha ho hB hG, c_mAsked2 it ik id hPm hV.2.2.2.1.2.2.1 hV.2.2.2.1.2.2.2 (hak.mp ha).2 hO hR, hI2⟩
      · rw [hb_bf (fun h => ho (hfo.mpr h))] at hO
        exact ⟨1, H, _, 5, 3, by decide, by omega, by omega, c_asked1 it ik id hP hM hR ha ho hB hG, c_mAsked1 it ik id hPm hV.2.2.2.1.2.2.1 hV.2.2.2.1.2.2.2 (hak.mp ha).2 hO hR, hI2⟩
    · exact ⟨0, H, _, 5, 3, by decide, by omega, by omega, c_asked0 it ik id hP hM hR ha hG, c_mAsked0 it ik id hPm hV.2.2.2.1.2.2.1 hV.2.2.2.1.2.2.2 (fun h => ha (hak.mpr ⟨q3, h⟩)) hR, hI2⟩
  · exact ⟨0, G, _, 5, 3, by decide, by omega, by omega, c_askedN it ik id hP hG, c_mAskedN it ik id (fun h => hP ⟨hth.mpr h.1, htk.mpr h.2.1, h.2.2⟩) hG, bk_I0 hJ hsh hG hbn⟩
/-! open, grounded -/
theorem bk_TR_h {D : hb_G} (hs : bk_sb D) : ∀ {r : List Nat}, (∀ e ∈ r, bk_vd D e) → bk_LG D r → ∀ t, (bk_TR D r).1 t ≠ -1 → ∃ i, 0 ≤ i ∧ i < 48 ∧ D 48 i = D 51 t
  | [], _, _, t, h => absurd rfl h
  | e :: r, hv, hl, t, h => by
    have ih := bk_TR_h hs (fun f hf => hv f (List.mem_cons_of_mem _ hf)) hl.2 t
    obtain ⟨v1, v2, v3, v4, v5, v6, v7⟩ := hv e List.mem_cons_self
    have h : (bk_st D (bk_TR D r) e).1 t ≠ -1 := h
    unfold bk_st at h
    by_cases e1 : D 63 e = 1
    · rw [if_pos e1] at h
      have h : hb_uf (bk_TR D r).1 (D 65 e) (D 67 e) t ≠ -1 := h
      unfold hb_uf at h
      by_cases et : t = D 65 e
      · have hb := (hs.2.2.1 _ (v6 e1).1.1).1
        have h3 := (hl.1.1 e1).2.2.1
        have v6 := v6 e1
        exact ⟨4 * D 51 (D 67 e) + D 68 e, by omega, by omega, by rw [et]; exact h3⟩
      · rw [if_neg et] at h; exact ih h
    · rw [if_neg e1] at h
      by_cases e2 : D 63 e = 2
      · rw [if_pos e2] at h
        have h : hb_uf (bk_TR D r).1 (D 65 e) (-1) t ≠ -1 := h
        unfold hb_uf at h
        by_cases et : t = D 65 e
        · rw [if_pos et] at h; exact absurd rfl h
        · rw [if_neg et] at h; exact ih h
      · rw [if_neg e2] at h; exact ih h
theorem bk_it {D H K : hb_G} {r : List Nat} (hs : bk_sb D) (hsl : bk_sl D H) (hS : bk_S1 D H r) (hrw : bk_rw D K) (hq : bk_tq D K r) (hv : ∀ f ∈ r, bk_vd D f) (hl : bk_LG D r) {m t : Int} (hm : hb_im H m) (ht : 0 ≤ t ∧ t < 40) : hb_it H m t ↔ hb_jr K m t := by
  obtain ⟨s1, s2, sTI⟩ := bk_S1_TI hS hv hl
  obtain ⟨t1, t2, tTI⟩ := bk_tq_TI hrw hq hv hl
  have hTR := (bk_TR_TI hv hl).1
  have hmr : 0 ≤ m ∧ m < 40 := ⟨hm.1.1, hm.1.2.1⟩
  have hpm : K 71 m = -1 := by
    rw [t1 m hmr]
    refine Classical.byContradiction fun h => ?_
    obtain ⟨i, h1, h2, h3⟩ := bk_TR_h hs hv hl m h
    exact hm.2 ⟨i, h1, h2, by rw [hsl.1 i ⟨h1, h2⟩, h3, (hsl.2.1 m hmr).1]⟩
  have e1 : hb_tp (H 34) 4 t = hb_tp (K 71) 4 t := by rw [bk_tp_c s1 hTR ht, bk_tp_c t1 hTR ht]
  unfold hb_it hb_jr hb_hs
  rw [e1, (hsl.2.1 t ht).1, hrw 51 (by omega)]
  constructor
  · rintro ⟨⟨-, -, h1⟩, h2⟩
    have := (hb_tp_ii (tTI.2.1 t ht)).1
    rw [h2] at this
    exact ⟨h1, this⟩
  · rintro ⟨h1, h2⟩
    exact ⟨⟨ht.1, ht.2, h1⟩, hb_ii_tp hpm h2⟩
theorem bk_fd_c {P Q : Nat → Prop} : ∀ {n j : Nat} {b : Int}, (∀ c, j ≤ c → c < j + n → (P c ↔ Q c)) → hb_fd P n j b = hb_fd Q n j b
  | 0, j, b, _ => rfl
  | n + 1, j, b, h => by
    have hj := h j (Nat.le_refl _) (by omega)
    unfold hb_fd
    rw [bk_fd_c (n := n) (j := j + 1) (fun c h1 h2 => h c (by omega) (by omega)), bk_fd_c (n := n) (j := j + 1) (fun c h1 h2 => h c (by omega) (by omega))]
    by_cases e : P j
    · rw [if_pos e, if_pos (hj.mp e)]
    · rw [if_neg e, if_neg (fun h9 => e (hj.mpr h9))]
theorem bk_fd_b {P : Nat → Prop} : ∀ {n j : Nat} {b : Int}, b < 0 → hb_fd P n j b = -1
  | 0, j, b, _ => rfl
  | n + 1, j, b, h => by
    unfold hb_fd
    rw [bk_fd_b (n := n) (j := j + 1) (show b - 1 < 0 by omega), bk_fd_b (n := n) (j := j + 1) h, if_neg (show ¬ b = 0 by omega)]
    split <;> rfl
theorem bk_fd_r {P : Nat → Prop} : ∀ {n j : Nat} {b : Int}, -1 ≤ hb_fd P n j b ∧ hb_fd P n j b < j + n + 1
  | 0, j, b => by unfold hb_fd; omega
  | n + 1, j, b => by
    have h1 := bk_fd_r (P := P) (n := n) (j := j + 1) (b := b)
    have h2 := bk_fd_r (P := P) (n := n) (j := j + 1) (b := b - 1)
    unfold hb_fd
    split
    · split <;> omega
    · omega
/-- the class has shown a day's end; the reference has arranged its tree -/
theorem bk_qt {l : Launch} {D G : hb_G} {F : hb_F} {na n : Nat} {xs : List Nat} {ob : Nat → Nat} (hJ : bk_J D G F na n xs ob) (hsh : bk_sh D G xs) (hG : hb_rg G) (hbn : hb_bn G) {d : Int} (hd : 0 ≤ d ∧ d ≤ 30000) : ∃ (H K : hb_G) (a b : List Nat), hb_M l yX4_show cX4_show 2 none 4 0 0 [hb_r 32, hb_i (d * 100 + 100 - 1)] (hb_w G F na) (77 + na) (.inl none) (hb_w H F na) (77 + na) ∧ hb_M l yX9_arrange cX9_arrange 3 (some .boolean) 3 0 0 [hb_r 47, hb_i (100 * d + 99)] (hb_w (hb_u2 H 47 0 0) F na) (77 + na) (.inl (some (hb_i 1))) (hb_w K F na) (77 + na) ∧ bk_J D H F na n xs ob ∧ hb_rg H ∧ hb_bn H ∧ bk_tq D K a.reverse ∧ bk_J D K F na n xs ob ∧ bk_sh D K xs ∧ hb_rg K ∧ hb_bn K ∧ bk_V D H K n a b d ∧ (∀ f ∈ a.reverse, bk_vd D f) ∧ bk_LG D a.reverse ∧ bk_sh D H xs ∧ xs = a ++ b := by
  obtain ⟨H, a, b, hx, hp, hM, hS, hJ2, hsh2, hR, hB, hV⟩ := bk_qd (l := l) hJ hsh hG hbn hd
  obtain ⟨K, k1, k2, k3, k4, k5, k6, k7⟩ := bk_qa (l := l) hJ2 hsh2 hR hB (pt := 100 * d + 99) (by omega) hx hp
  obtain ⟨hva, hLa⟩ := bk_J_a hJ hx
  exact ⟨H, K, a, b, hM, k1, hJ2, hR, hB, k2, k4, k5, k6, k7, bk_V_of hJ2 hS k4.1 k4.2.1 k4.2.2.2.1.2.1 hx hp hd, hva, hLa, hsh2, hx⟩
theorem st_open {l : Launch} {m d i : Int} (im : hb_in m) (id : hb_in d) (ii : hb_in i) : hb_stQ l bk_I yX8_open cX8_open 7 (some .int) yX9_open cX9_open 9 (some .int) [hb_i m, hb_i d, hb_i i] := by
  intro G F na hI
  obtain ⟨D, n, xs, ob, hJ, hsh, hG, hbn⟩ := hI
  have him : hb_im G m ↔ hb_jm (hb_u2 G 47 0 0) m := bk_im hJ.2.2.1.2.1 (hJ.kz (bk_kz_0 (v := 0))).1
  by_cases hP : hb_im G m ∧ (0 ≤ d ∧ d ≤ 30000)
  · obtain ⟨H, K, a, b, hM, hA, hJ2, hR, hB, k2, k4, k5, k6, k7, hV, hva, hLa, hsh2, hx⟩ := bk_qt (l := l) hJ hsh hG hbn hP.2
    have hmH : hb_im H m := (bk_im hJ2.2.2.1.2.1 (hJ.1)).mpr ((bk_im hJ.2.2.1.2.1 hJ.1).mp hP.1)
    have hjm : hb_jm (hb_u2 H 47 0 0) m := (bk_im hJ2.2.2.1.2.1 (hJ2.kz (bk_kz_0 (v := 0))).1).mp hmH
    have hjm0 := him.mp hP.1
    obtain ⟨s1, s2, sTI⟩ := bk_S1_TI hV.2.2.1.1 hva hLa
    obtain ⟨t1, t2, tTI⟩ := bk_tq_TI k4.1 k2 hva hLa
    have w51 := k4.1 51 (by omega); have w55 := k4.1 55 (by omega)
    have hO := fun t k ht hk (_ : K 51 t ≠ -1) (_ : K 55 k ≠ -1) => bk_mod (l := l) (F := F) (na := na) hV k6 (t := t) (k := k) ht hk
    have hmain : ∀ j : Nat, j < 640 → (hb_op H m d j ↔ hb_oj K m (100 * d + 99) n (bk_OV D a.reverse d) j) := by
      intro j hj
      have ht : 0 ≤ ((j / 16 : Nat) : Int) ∧ ((j / 16 : Nat) : Int) < 40 := by omega
      have hk : 0 ≤ ((j % 16 : Nat) : Int) ∧ ((j % 16 : Nat) : Int) < 16 := by omega
      have a1 := bk_it hV.1 hV.2.1 hV.2.2.1.1 k4.1 k2 hva hLa hmH ht
      have a2 := bk_ak hV ht hk
      unfold hb_op hb_oj
      rw [a1, a2, w55]
      constructor
      · rintro ⟨h1, ⟨h2, h3⟩, h4⟩
        exact ⟨h1, h2, h3, (bk_fo hV ht hk (by rw [← w51]; exact h1.1) h2).mp h4⟩
      · rintro ⟨h1, h2, h3, h4⟩
        exact ⟨h1, ⟨h2, h3⟩, (bk_fo hV ht hk (by rw [← w51]; exact h1.1) h2).mpr h4⟩
    by_cases hi : 0 ≤ i
    · have h := c_mOpenY im id ii ⟨hjm, hP.2⟩ hA k6 tTI.1 tTI.2.1 k4.2.2.2.1.2.1 k4.2.2.2.1.1 hO hR
      rw [← bk_fd_c (P := hb_op H m d) (fun c _ hc => hmain c (by omega))] at h
      have hr := bk_fd_r (P := hb_op H m d) (n := 640) (j := 0) (b := i)
      exact ⟨_, H, K, 6, 4, by constructor <;> omega, by omega, by omega, c_openY im id ii ⟨hP.1, hP.2, hi⟩ hM hR sTI.1 hB hG, h, ⟨D, n, xs, ob, k4, k5, k6, k7⟩⟩
    · -- the class looks at the number first
      have hJ0 := hJ.kz (bk_kz_0 (v := 0))
      obtain ⟨hp, hd9⟩ : bk_pf D (100 * d + 99) a b ∧ True := ⟨hV.2.2.2.2.2.2.2.2.1, trivial⟩
      obtain ⟨K2, y1, y2, y3, y4, y5, y6, y7⟩ := bk_qa (l := l) hJ hsh hG hbn (pt := 100 * d + 99) (by omega) hx hp
      obtain ⟨u1, u2, uTI⟩ := bk_tq_TI y4.1 y2 hva hLa
      have hV2 : bk_V D H K2 n a b d := ⟨hV.1, hV.2.1, hV.2.2.1, ⟨y4.1, y4.2.1, y4.2.2.2.1.2.1, y4.2.2.2.1.1⟩, hV.2.2.2.2⟩
      have hO2 := fun t k ht hk (_ : K2 51 t ≠ -1) (_ : K2 55 k ≠ -1) => bk_mod (l := l) (F := F) (na := na) hV2 y6 (t := t) (k := k) ht hk
      have h := c_mOpenY im id ii ⟨hjm0, hP.2⟩ y1 y6 uTI.1 uTI.2.1 y4.2.2.2.1.2.1 y4.2.2.2.1.1 hO2 hG
      rw [bk_fd_b (by omega)] at h
      exact ⟨-1, G, K2, 5, 4, by decide, by omega, by omega, c_openN im id ii (fun h => hi h.2.2) hG, h, ⟨D, n, xs, ob, y4, y5, y6, y7⟩⟩
  · exact ⟨-1, G, _, 5, 4, by decide, by omega, by omega, c_openN im id ii (fun h => hP ⟨h.1, h.2.1⟩) hG, c_mOpenN im id ii (fun h => hP ⟨him.mpr h.1, h.2⟩) hG, bk_I0 hJ hsh hG hbn⟩
theorem st_grounded {l : Launch} {m d : Int} (im : hb_in m) (id : hb_in d) : hb_stQ l bk_I yX8_grounded cX8_grounded 4 (some .int) yX9_grounded cX9_grounded 6 (some .int) [hb_i m, hb_i d] := by
  intro G F na hI
  obtain ⟨D, n, xs, ob, hJ, hsh, hG, hbn⟩ := hI
  have him : hb_im G m ↔ hb_jm (hb_u2 G 47 0 0) m := bk_im hJ.2.2.1.2.1 (hJ.kz (bk_kz_0 (v := 0))).1
  by_cases hP : hb_im G m ∧ (0 ≤ d ∧ d ≤ 30000)
  · obtain ⟨H, K, a, b, hM, hA, hJ2, hR, hB, k2, k4, k5, k6, k7, hV, hva, hLa, hsh2, hx⟩ := bk_qt (l := l) hJ hsh hG hbn hP.2
    have hmH : hb_im H m := (bk_im hJ2.2.2.1.2.1 (hJ.1)).mpr ((bk_im hJ.2.2.1.2.1 hJ.1).mp hP.1)
    have hjm : hb_jm (hb_u2 H 47 0 0) m := (bk_im hJ2.2.2.1.2.1 (hJ2.kz (bk_kz_0 (v := 0))).1).mp hmH
    obtain ⟨s1, s2, sTI⟩ := bk_S1_TI hV.2.2.1.1 hva hLa
    obtain ⟨t1, t2, tTI⟩ := bk_tq_TI k4.1 k2 hva hLa
    have w51 := k4.1 51 (by omega); have w55 := k4.1 55 (by omega); have w48 := k4.1 48 (by omega); have w49 := k4.1 49 (by omega); have w50 := k4.1 50 (by omega); have w58 := k4.1 58 (by omega); have w61 := k4.1 61 (by omega)
    have hO := fun t k ht hk (_ : K 51 t ≠ -1) (_ : K 55 k ≠ -1) => bk_mod (l := l) (F := F) (na := na) hV k6 (t := t) (k := k) ht hk
    have hs := hV.1
    have hsl := hV.2.1
    have hot : ∀ j, 0 ≤ j ∧ j < 8 → K 58 j ≠ -1 → (0 ≤ K 61 j ∧ K 61 j < 16) ∧ K 55 (K 61 j) ≠ -1 := fun j hj hn => by
      rw [w58] at hn
      rw [w61, w55]
      exact ((hs.2.2.2.2 j hj).2 hn).1
    have hcj : ∀ t, 0 ≤ t ∧ t < 40 → hb_in (hb_cj K t 0 (100 * d + 99) n) ∧ hb_in (hb_cj K t 1 (100 * d + 99) n) := fun t ht => by
      rw [bk_cj hV, bk_cj hV]
      have h0 := bk_cv_b hV (u := 0) ht; have h1 := bk_cv_b hV (u := 1) ht
      exact ⟨by constructor <;> omega, by constructor <;> omega⟩
    have h := c_mGroundedY im id ⟨hjm, hP.2⟩ hA k6 tTI.1 tTI.2.1 k4.2.2.2.1.2.1 k4.2.2.2.1.1 hO (fun t ht hn => by rw [w51] at hn ⊢; have := (hs.2.2.1 t ht).1; omega) hcj hot hR
    have hmain : hb_gr H m d 40 ↔ hb_gk K m (100 * d + 99) n (bk_OV D a.reverse d) 40 := by
      unfold hb_gr hb_gk
      have one : ∀ t, 0 ≤ t ∧ t < 40 → ((hb_it H m t ∧ hb_gt H d t) ↔ (hb_jr K m t ∧ hb_gj K (100 * d + 99) n (bk_OV D a.reverse d) t)) := by
        intro t ht
        have a1 := bk_it hV.1 hV.2.1 hV.2.2.1.1 k4.1 k2 hva hLa hmH ht
        rw [a1]
        refine and_congr_right fun hjr => ?_
        have h51 : D 51 t ≠ -1 := by rw [← w51]; exact hjr.1
        have hb51 := (hs.2.2.1 t ht).1
        have c0 := bk_hcn hV ht h51 (u := 0) (by decide)
        have c1 := bk_hcn hV ht h51 (u := 1) (by decide)
        have c0 : H 38 t = bk_cv D a.reverse t 0 d := c0
        have c1 : H 39 t = bk_cv D a.reverse t 1 d := c1
        have l2 := (hsl.2.1 t ht).1
        have l5 := hsl.2.2.2.2 (D 51 t) (by omega)
        have hep : hb_ep H t 4 ↔ hb_jp K t 4 := by
          unfold hb_ep hb_jp
          refine exists_congr fun p => and_congr_right fun hp => ?_
          rw [l2, hsl.1 (D 51 t * 4 + p) (by omega), w48, w51, Int.mul_comm, bk_hang hV.2.2.1.1 k4.1 k2 hva hLa ht hp]
        have how : hb_ow H t d 8 ↔ hb_jw K t (100 * d + 99) n (bk_OV D a.reverse d t) 8 := by
          unfold hb_ow hb_jw
          refine exists_congr fun o => and_congr_right fun ho => ?_
          have b1 := bk_bd hV (o := o) ht ho
          have l4 := hsl.2.2.2.1 o ho
          rw [b1, l4.2.2.2.1, w58, w61]
          constructor
          · rintro ⟨h1, h2, h3⟩
            have hn : D 58 o ≠ -1 := by rw [← w58]; exact h1.1.1
            have h61 := ((hs.2.2.2.2 o ho).2 hn).1
            exact ⟨hn, h1, ((bk_ak hV ht h61.1).mp h2).2, (bk_fo hV ht h61.1 h51 h61.2).mp h3⟩
          · rintro ⟨hn, h1, h2, h3⟩
            have h61 := ((hs.2.2.2.2 o ho).2 hn).1
            exact ⟨h1, (bk_ak hV ht h61.1).mpr ⟨h61.2, h2⟩, (bk_fo hV ht h61.1 h51 h61.2).mpr h3⟩
        unfold hb_gt hb_gj
        rw [hep, how, l2, c0, c1, l5.1, l5.2, w49, w50, w51, bk_cj hV, bk_cj hV]
      exact exists_congr fun t => and_congr_right fun ht => one t ht
    rw [← propext hmain] at h
    have hb01 : hb_in (hb_b (hb_gr H m d 40)) := by
      unfold hb_b; split <;> decide
    exact ⟨_, H, K, 6, 4, hb01, by omega, by omega, c_groundedY im id hP hM hR sTI.1 hB (fun t ht hn => by rw [(hsl.2.1 t ht).1] at hn ⊢; have := (hs.2.2.1 t ht).1; omega) (fun j hj hn => by
      have l4 := hsl.2.2.2.1 j hj
      rw [l4.1] at hn
      rw [l4.2.2.2.1]
      exact ((hs.2.2.2.2 j hj).2 hn).1.1) hG, h, ⟨D, n, xs, ob, k4, k5, k6, k7⟩⟩
  · exact ⟨-1, G, _, 5, 4, by decide, by omega, by omega, c_groundedN im id hP hG, c_mGroundedN im id (fun h => hP ⟨him.mpr h.1, h.2⟩) hG, bk_I0 hJ hsh hG hbn⟩
