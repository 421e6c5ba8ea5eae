/-! the invariant -/
def bk_sz (f : Int → Int) (n : Nat) : Int := match n with
  | 0 => 0
  | n + 1 => bk_sz f n + if f n = -1 then 0 else 1
def bk_N (D G : hb_G) (F : hb_F) (n : Nat) (xs : List Nat) (ob : Nat → Nat) : Prop := n ≤ 200 ∧ G 47 17 = n ∧ G 25 3 = n ∧ G 47 18 = xs.length ∧ (∀ e, e ∈ xs ↔ e < n ∧ D 64 e ≠ 0) ∧ (∀ e, e < n → bk_vd D e ∧ 0 ≤ D 69 e) ∧ (∀ e ∈ xs, F 26 e = some (77 + ob e)) ∧ (∀ e, e < n → e ∉ xs → F 26 e = none) ∧ (∀ e ∈ xs, ∀ f ∈ xs, ob e = ob f → e = f) ∧ (xs.filter (bk_mb D)).Pairwise (bk_lt D)
def bk_Z (G : hb_G) : Prop := G 6 4 = bk_sz (G 7) 40 ∧ G 47 4 = G 6 4
def bk_J (D G : hb_G) (F : hb_F) (na n : Nat) (xs : List Nat) (ob : Nat → Nat) : Prop := bk_rw D G ∧ G 73 = D 73 ∧ bk_C D G F na xs ob ∧ bk_N D G F n xs ob ∧ bk_mr D G xs ∧ bk_Z G
def bk_I : hb_I := fun G F na => ∃ (D : hb_G) (n : Nat) (xs : List Nat) (ob : Nat → Nat), bk_J D G F na n xs ob ∧ bk_sh D G xs ∧ hb_rg G ∧ hb_bn G
def bk_kz (G H : hb_G) : Prop := (∀ p : Nat, p ≠ 47 → (p < 32 ∨ p = 33 ∨ p = 37 ∨ p = 40 ∨ (46 < p ∧ p ≠ 71 ∧ p ≠ 72 ∧ p ≠ 75)) → H p = G p) ∧ ∀ i : Int, i ≠ 0 → H 47 i = G 47 i
theorem bk_kz.tr {G H K : hb_G} (h1 : bk_kz G H) (h2 : bk_kz H K) : bk_kz G K := ⟨fun p a b => (h2.1 p a b).trans (h1.1 p a b), fun i hi => (h2.2 i hi).trans (h1.2 i hi)⟩
theorem bk_kz.rf {G : hb_G} : bk_kz G G := ⟨fun _ _ _ => rfl, fun _ _ => rfl⟩
theorem bk_kq.kz {G H : hb_G} (h : bk_kq G H) : bk_kz G H := ⟨fun p a b => h p (by omega), fun i hi => by rw [h 47 (by omega)]⟩
theorem bk_kt.kz {G H : hb_G} (h : bk_kt G H) : bk_kz G H := ⟨fun p a b => h p (by omega) (by omega), fun i hi => by rw [h 47 (by decide) (by decide)]⟩
theorem bk_kz_0 {G : hb_G} {v : Int} : bk_kz G (hb_u2 G 47 0 v) := ⟨fun p a b => hb_u2_n a, fun i hi => hb_u2_i hi⟩
theorem bk_J.kz {D G H : hb_G} {F : hb_F} {na n : Nat} {xs : List Nat} {ob : Nat → Nat} (h : bk_J D G F na n xs ob) (hk : bk_kz G H) : bk_J D H F na n xs ob := by
  obtain ⟨j1, j2, ⟨c1, c2, c3, c4, c5, c6, c7, c8, c9, c10⟩, ⟨n1, n2, n3, n4, n5⟩, j5, j6⟩ := h
  have k := hk.1
  have k25 := k 25 (by decide) (by omega)
  refine ⟨fun p hp => (k p (by omega) (by omega)).trans (j1 p hp), (k 73 (by decide) (by omega)).trans j2, ⟨c1, ?_, c3, c4, c5, c6, c7, by rw [k25]; exact c8, fun e he => ⟨(c9 e he).1, ?_⟩, c10⟩, ⟨n1, (hk.2 17 (by decide)).trans n2, by rw [k25]; exact n3, (hk.2 18 (by decide)).trans n4, n5⟩, ⟨(hk.2 26 (by decide)).trans j5.1, fun j e he => by rw [k 70 (by decide) (by omega)]; exact j5.2 j e he⟩, ?_⟩
  · unfold bk_sl
    rw [k 2 (by decide) (by omega), k 7 (by decide) (by omega), k 9 (by decide) (by omega), k 10 (by decide) (by omega), k 11 (by decide) (by omega), k 13 (by decide) (by omega), k 15 (by decide) (by omega), k 16 (by decide) (by omega), k 17 (by decide) (by omega), k 18 (by decide) (by omega), k 20 (by decide) (by omega), k 21 (by decide) (by omega), k 22 (by decide) (by omega), k 23 (by decide) (by omega), k 24 (by decide) (by omega), k 4 (by decide) (by omega), k 5 (by decide) (by omega)]
    exact c2
  · unfold bk_obj
    rw [k (77 + ob e) (by omega) (by omega)]
    exact (c9 e he).2
  · unfold bk_Z
    rw [k 6 (by decide) (by omega), k 7 (by decide) (by omega), hk.2 4 (by decide)]
    exact j6
theorem bk_sh_c {D G H : hb_G} {xs : List Nat} (h : bk_sh D G xs) (hk : ∀ p : Nat, 32 ≤ p ∧ p ≤ 45 → H p = G p) : bk_sh D H xs := by
  unfold bk_sh bk_SD bk_S1 bk_S2 bk_S3 bk_S4 bk_S5
  rw [hk 32 (by omega), hk 34 (by omega), hk 35 (by omega), hk 36 (by omega), hk 38 (by omega), hk 39 (by omega), hk 41 (by omega), hk 42 (by omega), hk 43 (by omega), hk 44 (by omega), hk 45 (by omega)]
  exact h
/-- the class shows a point -/
theorem bk_q {l : Launch} {D G : hb_G} {F : hb_F} {na n : Nat} {xs : List Nat} {ob : Nat → Nat} (hJ : bk_J D G F na n xs ob) (hsh : bk_sh D G xs) (hG : hb_rg G) (hbn : hb_bn G) {pt : Int} (hpt : 0 ≤ pt ∧ pt ≤ 3000099) : ∃ (H : hb_G) (a b : List Nat), xs = a ++ b ∧ bk_pf D pt a b ∧ hb_M l yX4_show cX4_show 2 none 4 0 0 [hb_r 32, hb_i pt] (hb_w G F na) (77 + na) (.inl none) (hb_w H F na) (77 + na) ∧ bk_SD D H a.reverse ∧ bk_J D H F na n xs ob ∧ bk_sh D H xs ∧ hb_rg H ∧ hb_bn H := by
  obtain ⟨H, a, b, hx, hp, hM, hS, hk, hR, hB, h9, h10⟩ := bk_show (l := l) hJ.2.2.1 hG hbn hsh hpt
  exact ⟨H, a, b, hx, hp, hM, hS, hJ.kz hk.kz, Or.inr ⟨by omega, a, b, hx, by rw [h9]; exact hp, h10, hS⟩, hR, hB⟩
/-- the reference arranges the tree of a point, behind its first word -/
theorem bk_qa {l : Launch} {D H : hb_G} {F : hb_F} {na n : Nat} {xs : List Nat} {ob : Nat → Nat} (hJ : bk_J D H F na n xs ob) (hsh : bk_sh D H xs) (hR : hb_rg H) (hB : hb_bn H) {pt : Int} (hpt : 0 ≤ pt ∧ pt ≤ 3000099) {a b : List Nat} (hx : xs = a ++ b) (hp : bk_pf D pt a b) : ∃ K, hb_M l yX9_arrange cX9_arrange 3 (some .boolean) 3 0 0 [hb_r 47, hb_i pt] (hb_w (hb_u2 H 47 0 0) F na) (77 + na) (.inl (some (hb_i 1))) (hb_w K F na) (77 + na) ∧ bk_tq D K a.reverse ∧ bk_kt (hb_u2 H 47 0 0) K ∧ bk_J D K F na n xs ob ∧ bk_sh D K xs ∧ hb_rg K ∧ hb_bn K := by
  have hJ0 := hJ.kz (bk_kz_0 (v := 0))
  have hR0 : hb_rg (hb_u2 H 47 0 0) := hR.u2 (by decide)
  obtain ⟨j1, j2, ⟨c1, c2, c3, c4, c5, c6, c7, c8, c9, c10⟩, ⟨n1, n2, n3, n4, n5, n6⟩, j5, j6⟩ := hJ0
  subst hx
  obtain ⟨K, k1, k2, k3, k4⟩ := bk_arr (l := l) (F := F) (na := na) (n := n) c1 j1 hR0 n1 (fun f hf => ((n5 f).mp hf).1) c4 c5 c6 j5 hp (by constructor <;> omega)
  refine ⟨K, k1, k3, k2, (hJ.kz bk_kz_0).kz k2.kz, bk_sh_c hsh (fun p hp9 => ?_), k4, bk_bn_c (fun p hp9 => ?_) hB⟩
  · rw [k2 p (by omega) (by omega), hb_u2_n (by omega)]
  · rw [k2 p (by omega) (by omega), hb_u2_n (by omega)]
theorem bk_im {D H K : hb_G} (hsl : bk_sl D H) (hrw : bk_rw D K) {x : Int} : hb_im H x ↔ hb_jm K x := by
  have w51 := hrw 51 (by omega); have w48 := hrw 48 (by omega)
  unfold hb_im hb_jm hb_hs hb_js
  rw [w51, w48]
  constructor
  · rintro ⟨⟨h1, h2, h3⟩, h4⟩
    have h7 := (hsl.2.1 x ⟨h1, h2⟩).1
    rw [h7] at h3 h4
    exact ⟨⟨h1, h2, h3⟩, fun ⟨i, hi1, hi2, hi3⟩ => h4 ⟨i, hi1, hi2, by rw [hsl.1 i ⟨hi1, hi2⟩]; exact hi3⟩⟩
  · rintro ⟨⟨h1, h2, h3⟩, h4⟩
    have h7 := (hsl.2.1 x ⟨h1, h2⟩).1
    rw [h7]
    exact ⟨⟨h1, h2, h3⟩, fun ⟨i, hi1, hi2, hi3⟩ => h4 ⟨i, hi1, hi2, by rw [← hsl.1 i ⟨hi1, hi2⟩]; exact hi3⟩⟩
theorem bk_th {D G : hb_G} (hsl : bk_sl D G) (hrw : bk_rw D G) {t : Int} : (0 ≤ t ∧ t < 40 ∧ G 7 t ≠ -1) ↔ (0 ≤ t ∧ t < 40 ∧ hb_u2 G 47 0 0 51 t ≠ -1) := by
  show _ ↔ (0 ≤ t ∧ t < 40 ∧ G 51 t ≠ -1)
  rw [hrw 51 (by omega)]
  constructor <;> rintro ⟨h1, h2, h3⟩ <;> have h7 := (hsl.2.1 t ⟨h1, h2⟩).1
  · exact ⟨h1, h2, by rw [← h7]; exact h3⟩
  · exact ⟨h1, h2, by rw [h7]; exact h3⟩
/-! count -/
theorem st_count {l : Launch} {w : Int} (iw : hb_in w) : hb_stQ l bk_I yX8_count cX8_count 2 (some .int) yX9_count cX9_count 2 (some .int) [hb_i w] := by
  intro G F na hI
  obtain ⟨D, n, xs, ob, hJ, hsh, hG, hbn⟩ := hI
  have hI2 : bk_I (hb_u2 G 47 0 0) F na := ⟨D, n, xs, ob, hJ.kz bk_kz_0, bk_sh_c hsh (fun p hp => hb_u2_n (by omega)), hG.u2 (by decide), bk_bn_c (fun p hp => hb_u2_n (by omega)) hbn⟩
  have h25 := hJ.2.2.1.2.2.2.2.2.2.2.1
  obtain ⟨n1, n2, n3, n4, -⟩ := hJ.2.2.2.1
  by_cases h0 : w = 0
  · subst h0
    have h := c_mCount0 (l := l) (G := G) (F := F) (na := na)
    rw [n2] at h
    exact ⟨n, G, _, 0, 0, by constructor <;> omega, by omega, by omega, by rw [← n3]; exact c_count0, h, hI2⟩
  · by_cases h1 : w = 1
    · subst h1
      have h := c_mCount1 (l := l) (G := G) (F := F) (na := na)
      rw [n4] at h
      have hl := hJ.2.2.1.2.2.2.2.1
      exact ⟨xs.length, G, _, 0, 0, by constructor <;> omega, by omega, by omega, by rw [← h25]; exact c_count1, h, hI2⟩
    · by_cases h2 : w = 2
      · subst h2
        have h := c_mCount2 (l := l) (G := G) (F := F) (na := na)
        rw [hJ.2.2.2.2.2.2] at h
        exact ⟨G 6 4, G, _, 0, 0, hG _ _, by omega, by omega, c_count2, h, hI2⟩
      · exact ⟨-1, G, _, 0, 0, by decide, by omega, by omega, c_countN iw (by omega), c_mCountN iw (by omega), hI2⟩
/-! where -/
theorem st_where {l : Launch} {t p w : Int} (it : hb_in t) (ip : hb_in p) (iw : hb_in w) : hb_stQ l bk_I yX8_where cX8_where 4 (some .int) yX9_where cX9_where 5 (some .int) [hb_i t, hb_i p, hb_i w] := by
  intro G F na hI
  obtain ⟨D, n, xs, ob, hJ, hsh, hG, hbn⟩ := hI
  have hth := bk_th hJ.2.2.1.2.1 hJ.1 (t := t)
  have i0 : ∀ {H : hb_G}, bk_J D H F na n xs ob → bk_sh D H xs → hb_rg H → hb_bn H → bk_I (hb_u2 H 47 0 0) F na := fun h1 h2 h3 h4 => ⟨D, n, xs, ob, h1.kz bk_kz_0, bk_sh_c h2 (fun p hp => hb_u2_n (by omega)), h3.u2 (by decide), bk_bn_c (fun p hp => hb_u2_n (by omega)) h4⟩
  by_cases hP : (0 ≤ t ∧ t < 40 ∧ G 7 t ≠ -1) ∧ (0 ≤ p ∧ p ≤ 3000099)
  · obtain ⟨H, a, b, hx, hp, hM, hS, hJ2, hsh2, hR, hB⟩ := bk_q (l := l) hJ hsh hG hbn hP.2
    have hth2 := bk_th hJ2.2.2.1.2.1 hJ2.1 (t := t)
    have hPm : (0 ≤ t ∧ t < 40 ∧ hb_u2 H 47 0 0 51 t ≠ -1) ∧ (0 ≤ p ∧ p ≤ 3000099) := by
      refine ⟨⟨hP.1.1, hP.1.2.1, ?_⟩, hP.2⟩
      show H 51 t ≠ -1
      rw [hJ2.1 51 (by omega), ← (hJ.2.2.1.2.1.2.1 t ⟨hP.1.1, hP.1.2.1⟩).1]
      exact hP.1.2.2
    have ht : 0 ≤ t ∧ t < 40 := ⟨hP.1.1, hP.1.2.1⟩
    have hva : ∀ f ∈ a.reverse, bk_vd D f := fun f hf => hJ.2.2.1.2.2.2.1 f (by rw [hx]; exact List.mem_append_left _ (List.mem_reverse.mp hf))
    have hLa : bk_LG D a.reverse := by
      have := hJ.2.2.1.2.2.2.2.2.1
      rw [hx, List.reverse_append] at this
      exact bk_LG_a this
    obtain ⟨s1, s2, sTI⟩ := bk_S1_TI hS.1 hva hLa
    by_cases hw : 0 ≤ w ∧ w ≤ 3
    · obtain ⟨K, k1, k2, k3, k4, k5, k6, k7⟩ := bk_qa (l := l) hJ2 hsh2 hR hB hP.2 hx hp
      obtain ⟨t1, t2, tTI⟩ := bk_tq_TI k4.1 k2 hva hLa
      have hIK : bk_I K F na := ⟨D, n, xs, ob, k4, k5, k6, k7⟩
      rcases (show w = 0 ∨ w = 1 ∨ w = 2 ∨ w = 3 by omega) with rfl | rfl | rfl | rfl
      · have h := c_mWhere0 it ip hPm k1 k6 hR
        rw [(k2 t ht).1, ← (hS.1.1 t ht).1] at h
        exact ⟨H 34 t, H, K, 5, 4, hR _ _, by omega, by omega, c_where0 it ip hP hM hR hG, h, hIK⟩
      · have h := c_mWhere1 it ip hPm k1 k6 hR
        rw [(k2 t ht).2, ← (hS.1.1 t ht).2] at h
        exact ⟨H 35 t, H, K, 5, 4, hR _ _, by omega, by omega, c_where1 it ip hP hM hR hG, h, hIK⟩
      · have htr := (bk_TR_TI hva hLa).1
        have e1 : hb_tp (H 34) 4 t = hb_tp (bk_TR D a.reverse).1 4 t := bk_tp_c s1 htr ht
        have e2 : hb_tp (K 71) 4 t = hb_tp (bk_TR D a.reverse).1 4 t := bk_tp_c t1 htr ht
        have him : hb_im H (hb_tp (H 34) 4 t) ↔ hb_jm K (hb_tp (K 71) 4 t) := by rw [e1, e2]; exact bk_im hJ2.2.2.1.2.1 k4.1
        have hrr := bk_tp_r htr (n := 4) ht
        by_cases hm : hb_im H (hb_tp (H 34) 4 t)
        · have h := c_mWhere2 it ip hPm k1 k6 (c_mMachineOfY ht (him.mp hm) tTI.1 tTI.2.1 k6) hR
          rw [e2, ← e1] at h
          exact ⟨hb_tp (H 34) 4 t, H, K, 5, 4, by rw [e1]; constructor <;> omega, by omega, by omega, c_where2 it ip hP hM hR (c_machineOfY ht hm sTI.1 hR) hG, h, hIK⟩
        · exact ⟨-1, H, K, 5, 4, by decide, by omega, by omega, c_where2 it ip hP hM hR (c_machineOfN ht hm sTI.1 hR) hG, c_mWhere2 it ip hPm k1 k6 (c_mMachineOfN ht (fun h => hm (him.mpr h)) tTI.1 tTI.2.1 k6) hR, hIK⟩
      · have htr := (bk_TR_TI hva hLa).1
        have h := c_mWhere3 it ip hPm k1 k6 tTI.1 tTI.2.1 hR
        have e1 : hb_la (H 34) (hb_tp (H 34) 4 t) 5 0 t = hb_dp (K 71) 4 t := by
          rw [show hb_la (H 34) (hb_tp (H 34) 4 t) 5 0 t = hb_dp (H 34) 4 t from hb_la_tp (by omega) (sTI.2.1 t ht), bk_dp_c s1 htr ht, bk_dp_c t1 htr ht]
        rw [← e1] at h
        have hdb : ∀ (n : Nat) (t : Int), hb_dp (K 71) n t ≤ n := by
          intro n
          induction n with
          | zero => intro t; exact Int.le_refl _
          | succ n ih =>
            intro t
            unfold hb_dp
            split
            · omega
            · have := ih (K 71 t); omega
        have h0 := bk_dp_0 (par := K 71) (n := 4) (t := t)
        have h4 := hdb 4 t
        exact ⟨_, H, K, 5, 4, by rw [e1]; constructor <;> omega, by omega, by omega, c_where3 it ip hP hM hR sTI.1 hG, h, hIK⟩
    · exact ⟨-1, H, _, 5, 4, by decide, by omega, by omega, c_whereX it ip iw hP hM hR (by omega) hG, c_mWhereN it ip iw (fun h => hw h.2.2) hR, i0 hJ2 hsh2 hR hB⟩
  · exact ⟨-1, G, _, 5, 4, by decide, by omega, by omega, c_whereN it ip hP hG, c_mWhereN it ip iw (fun h => hP ⟨hth.mpr h.1, h.2.1⟩) hG, i0 hJ hsh hG hbn⟩
/-! the reference's readings, over the book -/
theorem bk_sm_c {D K : hb_G} (hrw : bk_rw D K) (h73 : K 73 = D 73) {t u pt : Int} : ∀ {n : Nat}, hb_sm K t u pt n = hb_sm D t u pt n
  | 0 => by unfold hb_sm; rw [hrw 52 (by omega), hrw 53 (by omega)]
  | n + 1 => by
    unfold hb_sm hb_fq
    rw [bk_sm_c hrw h73, hrw 63 (by omega), hrw 64 (by omega), hrw 65 (by omega), hrw 66 (by omega), hrw 67 (by omega), hrw 68 (by omega), h73]
theorem bk_nx_c {D K : hb_G} (hrw : bk_rw D K) {t k pt lp le : Int} : ∀ {n : Nat}, hb_nx K t k pt lp le n = hb_nx D t k pt lp le n
  | 0 => rfl
  | n + 1 => by
    unfold hb_nx hb_of
    rw [bk_nx_c hrw, hrw 63 (by omega), hrw 64 (by omega), hrw 65 (by omega), hrw 66 (by omega), hrw 67 (by omega)]
/-- the book as it stands at a day's end: the class's state H, the reference's K -/
def bk_V (D H K : hb_G) (n : Nat) (a b : List Nat) (d : Int) : Prop := bk_sb D ∧ bk_sl D H ∧ bk_SD D H a.reverse ∧ (bk_rw D K ∧ K 73 = D 73 ∧ K 47 17 = n ∧ n ≤ 200) ∧ (a ++ b).Pairwise (bk_bf D) ∧ (∀ e, e ∈ a ++ b ↔ e < n ∧ D 64 e ≠ 0) ∧ (∀ e, e < n → bk_vd D e ∧ 0 ≤ D 69 e) ∧ (a ++ b).length ≤ 200 ∧ bk_pf D (100 * d + 99) a b ∧ (0 ≤ d ∧ d ≤ 30000)
theorem bk_V_of {D H K : hb_G} {F : hb_F} {na n : Nat} {xs : List Nat} {ob : Nat → Nat} {a b : List Nat} {d : Int} (hJ : bk_J D H F na n xs ob) (hS : bk_SD D H a.reverse) (hrw : bk_rw D K) (h73 : K 73 = D 73) (h17 : K 47 17 = n) (hx : xs = a ++ b) (hp : bk_pf D (100 * d + 99) a b) (hd : 0 ≤ d ∧ d ≤ 30000) : bk_V D H K n a b d := by
  subst hx
  obtain ⟨j1, j2, ⟨c1, c2, c3, c4, c5, c6, c7, c8, c9, c10⟩, ⟨n1, n2, n3, n4, n5, n6, n7⟩, j5, j6⟩ := hJ
  exact ⟨c1, c2, hS, ⟨hrw, h73, h17, n1⟩, c3, n5, n6, c5, hp, hd⟩
def bk_cv (D : hb_G) (r : List Nat) (t u d : Int) : Int := if u = 2 then d - D 54 t else bk_fl D u t r
theorem bk_V_vr {D H K : hb_G} {n : Nat} {a b : List Nat} {d : Int} (hV : bk_V D H K n a b d) : ∀ f ∈ a.reverse, bk_vd D f := fun f hf => by
  obtain ⟨v1, v2, v3, v4, v5, v6, v7, v8, v9, v10⟩ := hV
  exact (v7 f ((v6 f).mp (List.mem_append_left _ (List.mem_reverse.mp hf))).1).1
theorem bk_V_al {D H K : hb_G} {n : Nat} {a b : List Nat} {d : Int} (hV : bk_V D H K n a b d) : a.reverse.length ≤ 200 := by
  have := hV.2.2.2.2.2.2.2.1
  rw [List.length_append] at this
  rw [List.length_reverse]; omega
theorem bk_cj {D H K : hb_G} {n : Nat} {a b : List Nat} {d : Int} (hV : bk_V D H K n a b d) {t u : Int} : hb_cj K t u (100 * d + 99) n = bk_cv D a.reverse t u d := by
  obtain ⟨v1, v2, v3, ⟨v41, v42, v43, v44⟩, v5, v6, v7, v8, v9, v10⟩ := hV
  unfold hb_cj bk_cv
  split
  · rw [v41 54 (by omega)]; omega
  · rw [bk_sm_c v41 v42]
    exact bk_smP v5 v6 v9
theorem bk_cv_b {D H K : hb_G} {n : Nat} {a b : List Nat} {d : Int} (hV : bk_V D H K n a b d) {t u : Int} (ht : 0 ≤ t ∧ t < 40) : -30000 ≤ bk_cv D a.reverse t u d ∧ bk_cv D a.reverse t u d ≤ 100000000 := by
  have h1 := bk_fl_b hV.1 (u := u) ht (bk_V_vr hV)
  have h2 := hV.1.2.2.1 t ht
  have h3 := bk_V_al hV
  have h4 := hV.2.2.2.2.2.2.2.2.2
  unfold bk_cv
  split <;> omega
theorem bk_hcn {D H K : hb_G} {n : Nat} {a b : List Nat} {d : Int} (hV : bk_V D H K n a b d) {t u : Int} (ht : 0 ≤ t ∧ t < 40) (hk : D 51 t ≠ -1) (hu : 0 ≤ u ∧ u < 3) : hb_cn H t u d = bk_cv D a.reverse t u d := by
  obtain ⟨v1, v2, ⟨S1, S2, S3, S4, S5⟩, v4⟩ := hV
  have s2 := S2 t ht hk
  unfold hb_cn bk_cv
  rcases (show u = 0 ∨ u = 1 ∨ u = 2 by omega) with rfl | rfl | rfl
  · rw [if_pos rfl, if_neg (by decide)]; exact s2.1
  · rw [if_neg (by decide), if_pos rfl, if_neg (by decide)]; exact s2.2
  · rw [if_neg (by decide), if_neg (by decide), if_pos rfl, (v2.2.1 t ht).2.2.2]
theorem bk_du_b {D H K : hb_G} {n : Nat} {a b : List Nat} {d : Int} (hV : bk_V D H K n a b d) {t k u : Int} (ht : 0 ≤ t ∧ t < 40) (hk : 0 ≤ k ∧ k < 16) (hu : 0 ≤ u ∧ u < 3) : -30000 ≤ bk_DU D u t k a.reverse ∧ bk_DU D u t k a.reverse ≤ 100000000 := by
  have h1 := bk_DU_b hV.1 hu ht hk (bk_V_vr hV)
  have h3 := bk_V_al hV
  omega
theorem bk_dueAt {l : Launch} {D H K : hb_G} {F : hb_F} {na n : Nat} {a b : List Nat} {d : Int} (hV : bk_V D H K n a b d) (hK : hb_rg K) {t k u : Int} (ht : 0 ≤ t ∧ t < 40) (hk : 0 ≤ k ∧ k < 16) (hu : 0 ≤ u ∧ u < 3) : hb_M l yX9_dueAt cX9_dueAt 14 (some .int) 1 0 0 [hb_r 47, hb_i t, hb_i k, hb_i u, hb_i (100 * d + 99)] (hb_w K F na) (77 + na) (.inl (some (hb_i (bk_DU D u t k a.reverse)))) (hb_w K F na) (77 + na) := by
  obtain ⟨v1, v2, v3, ⟨v41, v42, v43, v44⟩, v5, v6, v7, v8, v9, v10⟩ := hV
  obtain ⟨m, DD, CN, LP, LE, h1, h2, h3⟩ := bk_due0 v1 v44 hu ht hk (fun e he => (v7 e he).2) v5 v6 (fun e he => (v7 e ((v6 e).mp he).1).1) v8 v9
  have hip : hb_in (100 * d + 99) := by constructor <;> omega
  have hcj : ∀ pt, hb_cj K t u pt n = hb_cj D t u pt n := fun pt => by
    unfold hb_cj
    rw [bk_sm_c v41 v42, v41 54 (by omega)]
  have hds : hb_ds K t k u (100 * d + 99) n m DD CN LP LE := by
    obtain ⟨g1, g2, g3, g4⟩ := h1
    refine ⟨g2, g3, by rw [bk_nx_c v41]; exact h3, fun j hj => ?_⟩
    have h5 := g4 j hj
    unfold hb_aj at h5 ⊢
    rw [bk_nx_c v41, hcj, v41 66 (by omega), v41 69 (by omega), v41 63 (by omega), v41 68 (by omega), v41 56 (by omega), v41 57 (by omega)]
    exact h5
  have hiv := (v1.2.2.2.1 k hk).2.1
  have htl := (v1.2.2.2.1 k hk).2.2
  have h0 := h1.1
  have w56 := v41 56 (by omega)
  have w57 := v41 57 (by omega)
  rw [← h2]
  rcases (show u = 0 ∨ u = 1 ∨ u = 2 by omega) with rfl | rfl | rfl
  · exact c_mDueAt0 ht hk hip v43 v44 (by rw [w56]; exact hiv 0 (by decide)) (by rw [w57]; exact htl) (by rw [h0, w56, v41 52 (by omega)]; exact Int.add_comm _ _) hds hK
  · exact c_mDueAt1 ht hk hip v43 v44 (by rw [w56]; exact hiv 1 (by decide)) (by rw [w57]; exact htl) (by rw [h0, w56, v41 53 (by omega)]; exact Int.add_comm _ _) hds hK
  · exact c_mDueAt2 ht hk hip v43 v44 (by rw [w56]; exact hiv 2 (by decide)) (by rw [w57]; exact htl) (by rw [h0, w56]; exact Int.add_comm _ _) hds hK
/-- a task is overdue -/
def bk_OV (D : hb_G) (r : List Nat) (d t k : Int) : Prop := (0 < D 56 (3 * k + 0) ∧ bk_DU D 0 t k r < bk_cv D r t 0 d) ∨ (0 < D 56 (3 * k + 1) ∧ bk_DU D 1 t k r < bk_cv D r t 1 d) ∨ (0 < D 56 (3 * k + 2) ∧ bk_DU D 2 t k r < bk_cv D r t 2 d)
theorem bk_mod {l : Launch} {D H K : hb_G} {F : hb_F} {na n : Nat} {a b : List Nat} {d : Int} (hV : bk_V D H K n a b d) (hK : hb_rg K) {t k : Int} (ht : 0 ≤ t ∧ t < 40) (hk : 0 ≤ k ∧ k < 16) : hb_M l yX9_isOverdue cX9_isOverdue 5 (some .boolean) 2 0 0 [hb_r 47, hb_i t, hb_i k, hb_i (100 * d + 99)] (hb_w K F na) (77 + na) (.inl (some (hb_i (hb_b (bk_OV D a.reverse d t k))))) (hb_w K F na) (77 + na) := by
  have hd := hV.2.2.2.2.2.2.2.2.2
  have w56 := hV.2.2.2.1.1 56 (by omega)
  have ci : ∀ u, hb_in (hb_cj K t u (100 * d + 99) n) := fun u => by
    rw [bk_cj hV]; have := bk_cv_b hV (u := u) ht; constructor <;> omega
  have di : ∀ u, 0 ≤ u ∧ u < 3 → hb_in (bk_DU D u t k a.reverse) := fun u hu => by
    have := bk_du_b hV ht hk hu; constructor <;> omega
  have h := c_mIsOverdue (l := l) (F := F) (na := na) (G := K) (n := n) ht hk (by constructor <;> omega) (by omega) hV.2.2.2.1.2.2.1 hV.2.2.2.1.2.2.2 (di 0 (by decide)) (ci 0) (fun _ => bk_dueAt hV hK ht hk (by decide)) (di 1 (by decide)) (ci 1) (fun _ => bk_dueAt hV hK ht hk (by decide)) (di 2 (by decide)) (ci 2) (fun _ => bk_dueAt hV hK ht hk (by decide)) hK
  rw [bk_cj hV, bk_cj hV, bk_cj hV, w56] at h
  exact h
theorem bk_fa0 {iv du cn day : Int} (hi : 0 ≤ iv) (hd : day ≤ 30000) : hb_fa iv du cn day 0 = if 0 < iv ∧ du < cn then day else 40001 := by
  unfold hb_fa
  by_cases h : 0 < iv ∧ du < cn
  · rw [if_pos h, if_neg (by omega), if_pos (by omega)]
  · rw [if_neg h]
    split
    · rfl
    · rw [if_neg (by omega), if_pos rfl]
theorem bk_fo {D H K : hb_G} {n : Nat} {a b : List Nat} {d : Int} (hV : bk_V D H K n a b d) {t k : Int} (ht : 0 ≤ t ∧ t < 40) (hk : 0 ≤ k ∧ k < 16) (h1 : D 51 t ≠ -1) (h2 : D 55 k ≠ -1) : hb_fo H t k d 0 0 = d ↔ bk_OV D a.reverse d t k := by
  have c0 := bk_hcn hV ht h1 (u := 0) (by decide)
  have c1 := bk_hcn hV ht h1 (u := 1) (by decide)
  have c2 := bk_hcn hV ht h1 (u := 2) (by decide)
  obtain ⟨v1, v2, ⟨S1, S2, S3, S4, S5⟩, v4, v5, v6, v7, v8, v9, v10⟩ := hV
  have s3 := S3 t k ht hk h1 h2
  have l3 := v2.2.2.1 k hk
  have hiv := (v1.2.2.2.1 k hk).2.1
  have i0 := hiv 0 (by decide); have i1 := hiv 1 (by decide); have i2 := hiv 2 (by decide)
  have c0 : H 38 t = bk_cv D a.reverse t 0 d := c0
  have c1 : H 39 t = bk_cv D a.reverse t 1 d := c1
  have c2 : d - H 11 t = bk_cv D a.reverse t 2 d := c2
  unfold hb_fo bk_OV
  rw [c0, c1, c2, s3.1, s3.2.1, s3.2.2, l3.2.1, l3.2.2.1, l3.2.2.2.1, bk_fa0 i0.1 v10.2, bk_fa0 i1.1 v10.2]
  generalize bk_cv D a.reverse t 0 d = x0
  generalize bk_cv D a.reverse t 1 d = x1
  generalize bk_cv D a.reverse t 2 d = x2
  generalize bk_DU D 0 t k a.reverse = y0
  generalize bk_DU D 1 t k a.reverse = y1
  generalize bk_DU D 2 t k a.reverse = y2
  unfold hb_fa
  split <;> split <;> split <;> (try split) <;> (try split) <;> constructor <;> intro h <;> omega
/-- an order binds a thing -/
theorem bk_bd {D H K : hb_G} {n : Nat} {a b : List Nat} {d : Int} (hV : bk_V D H K n a b d) {o t : Int} (ht : 0 ≤ t ∧ t < 40) (ho : 0 ≤ o ∧ o < 8) : hb_bd H o t ↔ hb_jb K o t (100 * d + 99) n := by
  obtain ⟨v1, v2, ⟨S1, S2, S3, S4, S5⟩, ⟨v41, v42, v43, v44⟩, v5, v6, v7, v8, v9, v10⟩ := hV
  have l4 := v2.2.2.2.1 o ho
  have l2 := (v2.2.1 t ht).1
  have hbe : hb_be K o t (100 * d + 99) n ↔ bk_RB D t o a.reverse := by
    unfold hb_be bk_RB
    rw [v41 64 (by omega), v41 63 (by omega), v41 65 (by omega), v41 67 (by omega), v41 66 (by omega)]
    constructor
    · rintro ⟨e, ⟨h1, h2⟩, h3, h4, h5, h6, h7⟩
      have he : ((e.toNat : Nat) : Int) = e := Int.toNat_of_nonneg h1
      have hm : e.toNat ∈ a ++ b := (v6 _).mpr ⟨by omega, by rw [he]; exact h3⟩
      rcases List.mem_append.mp hm with h8 | h8
      · exact ⟨e.toNat, List.mem_reverse.mpr h8, by rw [he]; exact ⟨h4, h5, h6⟩⟩
      · have := v9.2 _ h8; rw [he] at this; omega
    · rintro ⟨e, h1, h2, h3, h4⟩
      have hm := List.mem_reverse.mp h1
      have h5 := (v6 e).mp (List.mem_append_left _ hm)
      exact ⟨e, ⟨by omega, by omega⟩, h5.2, h2, h3, h4, v9.1 e hm⟩
  unfold hb_bd hb_jb
  rw [hbe, S5 t o ht ho, l4.1, l4.2.1, l4.2.2.1, l2, v41 58 (by omega), v41 51 (by omega), v41 59 (by omega), v41 60 (by omega)]
  constructor
  · rintro ⟨⟨h1, h2, h3⟩, h4, h5⟩
    exact ⟨⟨h3, h4⟩, h5⟩
  · rintro ⟨⟨h3, h4⟩, h5⟩
    exact ⟨⟨ho.1, ho.2, h3⟩, h4, h5⟩
/-- a task is asked of a thing -/
theorem bk_ak {D H K : hb_G} {n : Nat} {a b : List Nat} {d : Int} (hV : bk_V D H K n a b d) {t k : Int} (ht : 0 ≤ t ∧ t < 40) (hk : 0 ≤ k ∧ k < 16) : hb_ak H t k ↔ D 55 k ≠ -1 ∧ hb_jq K t k (100 * d + 99) n := by
  have bd := fun o ho => bk_bd hV (o := o) ht ho
  obtain ⟨v1, v2, v3, ⟨v41, v42, v43, v44⟩, v5⟩ := hV
  have l3 := (v2.2.2.1 k hk).1
  have l2 := (v2.2.1 t ht).1
  have w58 := v41 58 (by omega); have w61 := v41 61 (by omega); have w62 := v41 62 (by omega)
  have hR : (∃ o, (0 ≤ o ∧ o < 8) ∧ (hb_bd H o t ∧ H 24 o = k)) ↔ hb_yR K t k (100 * d + 99) n 8 := by
    unfold hb_yR
    rw [w58, w62]
    constructor
    · rintro ⟨o, ho, h1, h2⟩
      have l4 := v2.2.2.2.1 o ho
      exact ⟨o, ho, by rw [← l4.1]; exact h1.1.2.2, (bd o ho).mp h1, by rw [← l4.2.2.2.2]; exact h2⟩
    · rintro ⟨o, ho, h1, h2, h3⟩
      have l4 := v2.2.2.2.1 o ho
      exact ⟨o, ho, (bd o ho).mpr h2, by rw [l4.2.2.2.2]; exact h3⟩
  have hB : (∃ o, (0 ≤ o ∧ o < 8) ∧ (H 20 o ≠ -1 ∧ H 23 o = k ∧ hb_bd H o t)) ↔ hb_yB K t k (100 * d + 99) n 8 := by
    unfold hb_yB
    rw [w58, w61]
    constructor
    · rintro ⟨o, ho, h1, h2, h3⟩
      have l4 := v2.2.2.2.1 o ho
      exact ⟨o, ho, by rw [← l4.1]; exact h1, (bd o ho).mp h3, by rw [← l4.2.2.2.1]; exact h2⟩
    · rintro ⟨o, ho, h1, h2, h3⟩
      have l4 := v2.2.2.2.1 o ho
      exact ⟨o, ho, by rw [l4.1]; exact h1, by rw [l4.2.2.2.1]; exact h3, (bd o ho).mpr h2⟩
  have hI : (∃ o, (0 ≤ o ∧ o < 8) ∧ (H 20 o ≠ -1 ∧ H 23 o = k)) ↔ hb_yI K k 8 := by
    unfold hb_yI
    rw [w58, w61]
    constructor
    · rintro ⟨o, ho, h1, h2⟩
      have l4 := v2.2.2.2.1 o ho
      exact ⟨o, ho, by rw [← l4.1]; exact h1, by rw [← l4.2.2.2.1]; exact h2⟩
    · rintro ⟨o, ho, h1, h2⟩
      have l4 := v2.2.2.2.1 o ho
      exact ⟨o, ho, by rw [l4.1]; exact h1, by rw [l4.2.2.2.1]; exact h2⟩
  unfold hb_ak hb_jq
  rw [hR, hB, hI, l3, l2, v41 55 (by omega), v41 51 (by omega)]
  constructor
  · rintro ⟨⟨h1, h2, h3⟩, h4, h5, h6⟩
    exact ⟨h3, h4, h5, h6.elim Or.inr Or.inl⟩
  · rintro ⟨h3, h4, h5, h6⟩
    exact ⟨⟨hk.1, hk.2, h3⟩, h4, h5, h6.elim Or.inr Or.inl⟩
