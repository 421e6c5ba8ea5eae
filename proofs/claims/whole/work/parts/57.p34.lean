theorem en_th {D G : hb_G} (hsl : bk_sl D G) {t : Int} : (0 ≤ t ∧ t < 40 ∧ G 7 t ≠ -1) ↔ (0 ≤ t ∧ t < 40 ∧ D 51 t ≠ -1) := by
  constructor <;> rintro ⟨h1, h2, h3⟩ <;> have h7 := (hsl.2.1 t ⟨h1, h2⟩).1
  · exact ⟨h1, h2, by rw [← h7]; exact h3⟩
  · exact ⟨h1, h2, by rw [h7]; exact h3⟩
theorem en_tk {D G : hb_G} (hsl : bk_sl D G) {k : Int} : (0 ≤ k ∧ k < 16 ∧ G 13 k ≠ -1) ↔ (0 ≤ k ∧ k < 16 ∧ D 55 k ≠ -1) := by
  constructor <;> rintro ⟨h1, h2, h3⟩ <;> have h7 := (hsl.2.2.1 k ⟨h1, h2⟩).1
  · exact ⟨h1, h2, by rw [← h7]; exact h3⟩
  · exact ⟨h1, h2, by rw [h7]; exact h3⟩
theorem en_od {D G : hb_G} (hsl : bk_sl D G) {o : Int} : (0 ≤ o ∧ o < 8 ∧ G 20 o ≠ -1) ↔ (0 ≤ o ∧ o ≤ 7 ∧ D 58 o ≠ -1) := by
  constructor <;> rintro ⟨h1, h2, h3⟩ <;> have h7 := (hsl.2.2.2.1 o (by omega)).1
  · exact ⟨h1, by omega, by rw [← h7]; exact h3⟩
  · exact ⟨h1, by omega, by rw [h7]; exact h3⟩
theorem en_jm {D X : hb_G} (h51 : X 51 = D 51) (h48 : X 48 = D 48) {x : Int} : hb_jm X x ↔ hb_jm D x := by
  unfold hb_jm hb_js; rw [h51, h48]
theorem en_I1 {D G : hb_G} {F : hb_F} {na n : Nat} {xs : List Nat} {ob : Nat → Nat} (h1 : bk_J D G F na n xs ob) (h2 : bk_sh D G xs) (h3 : hb_rg G) (h4 : hb_bn G) {v : Int} (iv : hb_in v) : bk_I (hb_u2 G 47 0 v) F na := ⟨D, n, xs, ob, h1.kz bk_kz_0, bk_sh_c h2 (fun p hp => hb_u2_n (by omega)), h3.u2 iv, bk_bn_c (fun p hp => hb_u2_n (by omega)) h4⟩
theorem st_done {l : Launch} (hl : l.stackTraces = false) {t k p : Int} (it : hb_in t) (ik : hb_in k) (ip : hb_in p) : hb_stE l bk_I yL_done cL_done 6 [(0, 12, 15, 13), (0, 12, 19, 15)] yX9_done cX9_done 4 [hb_i t, hb_i k, hb_i p] := by
  intro G F na hI
  obtain ⟨D, n, xs, ob, hJ, hsh, hG, hbn⟩ := hI
  obtain ⟨hcl, hd, hLG, hmi, hrf⟩ := bk_of_J hJ
  have hsl := hcl.1
  have hrw := hrf.1
  have h17 := hrf.2.2.1
  have hn200 := hd.2.2.2.2.1
  have hM9 : ∀ X : hb_G, X 51 = D 51 → X 55 = D 55 → X 58 = D 58 → X 48 = D 48 → (((0 ≤ t ∧ t < 40 ∧ G 7 t ≠ -1) ∧ (0 ≤ k ∧ k < 16 ∧ G 13 k ≠ -1) ∧ (0 ≤ p ∧ p ≤ 3000099)) ↔ ((0 ≤ t ∧ t < 40 ∧ X 51 t ≠ -1) ∧ (0 ≤ k ∧ k < 16 ∧ X 55 k ≠ -1) ∧ (0 ≤ p ∧ p ≤ 3000099))) := by
    intro X w51 w55 w58 w48
    rw [en_th hsl, en_tk hsl, w51, w55]
  have w51 := hrw 51 (by omega)
  have w55 := hrw 55 (by omega)
  have w58 := hrw 58 (by omega)
  have w48 := hrw 48 (by omega)
  by_cases hP : (0 ≤ t ∧ t < 40 ∧ G 7 t ≠ -1) ∧ (0 ≤ k ∧ k < 16 ∧ G 13 k ≠ -1) ∧ (0 ≤ p ∧ p ≤ 3000099)
  · have hrow : ∀ i, hb_in (hb_er 3 t p k 0 0 0 0 i) := en_rowin (by decide) it ip ik (by decide) (by decide) (by decide) (by decide)
    by_cases hn : n = 200
    · obtain ⟨f1, f2, f3⟩ := en_full hcl hG hrow
      have hA := c_addFull (l := l) (F := F) (G := hb_u1 G (77 + na) (hb_er 3 t p k 0 0 0 0)) (Nat.lt_succ_self na) (by rw [f1.2.1, hn]; decide) f2
      have h := c_LdoneX (c_doneX it ik ip hP (c_enterN hl (Nat.lt_succ_self na) hA) hG)
      have hN := c_mNote2 (l := l) (F := F) (na := na + 1) (G := hb_u1 G (77 + na) (hb_er 3 t p k 0 0 0 0)) (k := 3) (t := t) (at9 := p) (a := k) (b := 0) (c := 0) (by rw [f3 47 (by omega), h17, hn]; rfl) f2
      have hPm := (hM9 (hb_u1 G (77 + na) (hb_er 3 t p k 0 0 0 0)) ((f3 51 (by omega)).trans w51) ((f3 55 (by omega)).trans w55) ((f3 58 (by omega)).trans w58) ((f3 48 (by omega)).trans w48)).mp hP
      have hF := c_mDoneY it ik ip hPm hN f2
      exact ⟨2, 0, _, _, F, na + 1, 2, 15, 2, by decide, by decide, by omega, by omega, by omega, by omega, by omega, h, hF, hb_u2_s, fun h => absurd h (by decide), en_keep f1 (fun q _ _ _ _ hq => f3 q hq) f2 (f3 6 (by omega)) (f3 11 (by omega)) hd hLG hmi hrf hsh hbn (by decide)⟩
    · have hlt : n < 200 := by omega
      have hv : bk_vd (bk_E D n 3 t p k 0 0) n := by
        have hD := (hM9 D rfl rfl rfl rfl).mp hP
        exact en_vd (by decide) ⟨⟨hD.1.1, hD.1.2.1⟩, hD.1.2.2⟩ hD.2.2 (fun h => absurd h (by decide)) (fun h => absurd h (by decide)) (fun _ => ⟨⟨hD.2.1.1, hD.2.1.2.1⟩, hD.2.1.2.2⟩) (fun h => absurd h (by decide)) (fun h => absurd h (by decide))
      obtain ⟨e1, e2, e3, e4, e5, e6, e7⟩ := bk_E_at (D := D) (n := n) (w := 3) (t := t) (p := p) (a := k) (b := 0) (c := 0)
      obtain ⟨x1, x2, hx, h1, h2, hacc, -⟩ := bk_add (l := l) (row := hb_er 3 t p k 0 0 0 0) hcl hd hlt (bk_E_ag (w := 3) (t := t) (p := p) (a := k) (b := 0) (c := 0)) hv hG hrow (en_obj rfl (fun h => absurd h (by decide)) (fun h => absurd h (by decide)) (fun _ => rfl) (fun h => absurd h (by decide))) (by rw [e4]; rfl) (by rw [e1]; rfl)
      obtain ⟨G1, F1, hA, hclE, hr, hR⟩ := hacc (Or.inl (by rw [e1]; decide))
      have iv : hb_in (n : Int) := by constructor <;> omega
      have h := c_LdoneY (c_doneY it ik ip hP (c_enterY (Nat.lt_succ_self na) iv (by omega) hA) hG) iv
      obtain ⟨q1, q2, q3, q4, q5, q6, q7⟩ := bk_acc (v := n) hclE hr hR hbn iv
      have x47 := q2 47 (by omega)
      have x17 : hb_u2 (hb_u2 G1 32 9 (-1)) 76 0 n 47 17 = n := by rw [x47]; exact h17
      have hN := c_mNoteY (l := l) (F := F1) (na := na + 1) (G := hb_u2 (hb_u2 G1 32 9 (-1)) 76 0 n) (k := 3) (t := t) (at9 := p) (a := k) (b := 0) (c := 0) (by rw [x17]; omega) (by rw [x17]; omega) q3
      have hPm := (hM9 (hb_u2 (hb_u2 G1 32 9 (-1)) 76 0 n) ((q2 51 (by omega)).trans w51) ((q2 55 (by omega)).trans w55) ((q2 58 (by omega)).trans w58) ((q2 48 (by omega)).trans w48)).mp hP
      have hb9 : hb_u2 (hb_u2 G1 32 9 (-1)) 76 0 n 47 17 + 1 - 1 = n := by rw [x17]; omega
      subst hx
      obtain ⟨j1, j2, j3, j4, j5, j6⟩ := bk_je (w := 3) (t := t) (p := p) (a := k) (b := 0) (c := 0) (X := hb_u2 (hb_u2 G1 32 9 (-1)) 76 0 n) (D := D) (n := n) (fun q hq => (q2 q (by omega)).trans (hrw q hq)) x17
      have hF := c_mDoneY it ik ip hPm hN q3
      rw [hb9] at hF
      exact ⟨0, n, _, _, F1, na + 1, 1, 9, 2, by decide, iv, by omega, by omega, by omega, by omega, by omega, h, hF, j5, fun _ => by rw [j6 76 (by omega) (by decide)]; exact q6, en_note hd hLG hmi hrf hlt (by decide) (by decide) hv h1 h2 q1 q2 q3 q4 q5 q7 (by decide) it ip ik (by decide) (by decide)⟩
  · have h := c_LdoneR (c_doneR (l := l) (F := F) (na := na) hl it ik ip hP hG)
    have hPm : ¬ ((0 ≤ t ∧ t < 40 ∧ G 51 t ≠ -1) ∧ (0 ≤ k ∧ k < 16 ∧ G 55 k ≠ -1) ∧ (0 ≤ p ∧ p ≤ 3000099)) := fun h => hP ((hM9 G w51 w55 w58 w48).mpr h)
    have hF := c_mDoneN it ik ip hPm (c_mNote0 (l := l) (F := F) (na := na)) hG
    exact ⟨1, 0, G, _, F, na, 1, 6, 2, by decide, by decide, by omega, by omega, by omega, by omega, by omega, h, hF, hb_u2_s, fun h => absurd h (by decide), en_I1 hJ hsh hG hbn (by decide)⟩
theorem st_concede {l : Launch} (hl : l.stackTraces = false) {t k p a b : Int} (it : hb_in t) (ik : hb_in k) (ip : hb_in p) (ia : hb_in a) (ib : hb_in b) : hb_stE l bk_I yL_concede cL_concede 8 [(0, 16, 19, 13), (0, 16, 23, 15)] yX9_concede cX9_concede 7 [hb_i t, hb_i k, hb_i p, hb_i a, hb_i b] := by
  intro G F na hI
  obtain ⟨D, n, xs, ob, hJ, hsh, hG, hbn⟩ := hI
  obtain ⟨hcl, hd, hLG, hmi, hrf⟩ := bk_of_J hJ
  have hsl := hcl.1
  have hrw := hrf.1
  have h17 := hrf.2.2.1
  have hn200 := hd.2.2.2.2.1
  have hM9 : ∀ X : hb_G, X 51 = D 51 → X 55 = D 55 → X 58 = D 58 → X 48 = D 48 → (((0 ≤ t ∧ t < 40 ∧ G 7 t ≠ -1) ∧ (0 ≤ k ∧ k < 16 ∧ G 13 k ≠ -1) ∧ (0 ≤ p ∧ p ≤ 3000099) ∧ (0 ≤ a ∧ a ≤ 10000) ∧ (0 ≤ b) ∧ (0 ≤ b / 10001 ∧ b / 10001 ≤ 10000)) ↔ ((0 ≤ t ∧ t < 40 ∧ X 51 t ≠ -1) ∧ (0 ≤ k ∧ k < 16 ∧ X 55 k ≠ -1) ∧ (0 ≤ p ∧ p ≤ 3000099) ∧ (0 ≤ a ∧ a ≤ 10000) ∧ 0 ≤ b ∧ b / 10001 ≤ 10000)) := by
    intro X w51 w55 w58 w48
    rw [en_th hsl, en_tk hsl, w51, w55]
    constructor
    · rintro ⟨h1, h2, h3, h4, h5, h6⟩; exact ⟨h1, h2, h3, h4, h5, h6.2⟩
    · rintro ⟨h1, h2, h3, h4, h5, h6⟩; exact ⟨h1, h2, h3, h4, h5, by omega, h6⟩
  have w51 := hrw 51 (by omega)
  have w55 := hrw 55 (by omega)
  have w58 := hrw 58 (by omega)
  have w48 := hrw 48 (by omega)
  by_cases hP : (0 ≤ t ∧ t < 40 ∧ G 7 t ≠ -1) ∧ (0 ≤ k ∧ k < 16 ∧ G 13 k ≠ -1) ∧ (0 ≤ p ∧ p ≤ 3000099) ∧ (0 ≤ a ∧ a ≤ 10000) ∧ (0 ≤ b) ∧ (0 ≤ b / 10001 ∧ b / 10001 ≤ 10000)
  · have hrow : ∀ i, hb_in (hb_er 4 t p k 0 a (b / 10001) (b % 10001) i) := en_rowin (by decide) it ip ik (by decide) ia (by constructor <;> omega) (by constructor <;> omega)
    by_cases hn : n = 200
    · obtain ⟨f1, f2, f3⟩ := en_full hcl hG hrow
      have hA := c_addFull (l := l) (F := F) (G := hb_u1 G (77 + na) (hb_er 4 t p k 0 a (b / 10001) (b % 10001))) (Nat.lt_succ_self na) (by rw [f1.2.1, hn]; decide) f2
      have h := c_LconcedeX (c_concedeX it ik ip ia ib hP (c_enterN hl (Nat.lt_succ_self na) hA) hG)
      have hN := c_mNote2 (l := l) (F := F) (na := na + 1) (G := hb_u1 G (77 + na) (hb_er 4 t p k 0 a (b / 10001) (b % 10001))) (k := 4) (t := t) (at9 := p) (a := k) (b := a) (c := b) (by rw [f3 47 (by omega), h17, hn]; rfl) f2
      have hPm := (hM9 (hb_u1 G (77 + na) (hb_er 4 t p k 0 a (b / 10001) (b % 10001))) ((f3 51 (by omega)).trans w51) ((f3 55 (by omega)).trans w55) ((f3 58 (by omega)).trans w58) ((f3 48 (by omega)).trans w48)).mp hP
      have hF := c_mConcedeY it ik ip ia ib hPm hN f2
      exact ⟨2, 0, _, _, F, na + 1, 2, 15, 2, by decide, by decide, by omega, by omega, by omega, by omega, by omega, h, hF, hb_u2_s, fun h => absurd h (by decide), en_keep f1 (fun q _ _ _ _ hq => f3 q hq) f2 (f3 6 (by omega)) (f3 11 (by omega)) hd hLG hmi hrf hsh hbn (by decide)⟩
    · have hlt : n < 200 := by omega
      have hv : bk_vd (bk_E D n 4 t p k a b) n := by
        have hD := (hM9 D rfl rfl rfl rfl).mp hP
        exact en_vd (by decide) ⟨⟨hD.1.1, hD.1.2.1⟩, hD.1.2.2⟩ hD.2.2.1 (fun h => absurd h (by decide)) (fun h => absurd h (by decide)) (fun _ => ⟨⟨hD.2.1.1, hD.2.1.2.1⟩, hD.2.1.2.2⟩) (fun _ => ⟨hD.2.2.2.1, hD.2.2.2.2⟩) (fun h => absurd h (by decide))
      obtain ⟨e1, e2, e3, e4, e5, e6, e7⟩ := bk_E_at (D := D) (n := n) (w := 4) (t := t) (p := p) (a := k) (b := a) (c := b)
      obtain ⟨x1, x2, hx, h1, h2, hacc, -⟩ := bk_add (l := l) (row := hb_er 4 t p k 0 a (b / 10001) (b % 10001)) hcl hd hlt (bk_E_ag (w := 4) (t := t) (p := p) (a := k) (b := a) (c := b)) hv hG hrow (en_obj rfl (fun h => absurd h (by decide)) (fun h => absurd h (by decide)) (fun _ => rfl) (fun _ => ⟨rfl, rfl, rfl⟩)) (by rw [e4]; rfl) (by rw [e1]; rfl)
      obtain ⟨G1, F1, hA, hclE, hr, hR⟩ := hacc (Or.inl (by rw [e1]; decide))
      have iv : hb_in (n : Int) := by constructor <;> omega
      have h := c_LconcedeY (c_concedeY it ik ip ia ib hP (c_enterY (Nat.lt_succ_self na) iv (by omega) hA) hG) iv
      obtain ⟨q1, q2, q3, q4, q5, q6, q7⟩ := bk_acc (v := n) hclE hr hR hbn iv
      have x47 := q2 47 (by omega)
      have x17 : hb_u2 (hb_u2 G1 32 9 (-1)) 76 0 n 47 17 = n := by rw [x47]; exact h17
      have hN := c_mNoteY (l := l) (F := F1) (na := na + 1) (G := hb_u2 (hb_u2 G1 32 9 (-1)) 76 0 n) (k := 4) (t := t) (at9 := p) (a := k) (b := a) (c := b) (by rw [x17]; omega) (by rw [x17]; omega) q3
      have hPm := (hM9 (hb_u2 (hb_u2 G1 32 9 (-1)) 76 0 n) ((q2 51 (by omega)).trans w51) ((q2 55 (by omega)).trans w55) ((q2 58 (by omega)).trans w58) ((q2 48 (by omega)).trans w48)).mp hP
      have hb9 : hb_u2 (hb_u2 G1 32 9 (-1)) 76 0 n 47 17 + 1 - 1 = n := by rw [x17]; omega
      subst hx
      obtain ⟨j1, j2, j3, j4, j5, j6⟩ := bk_je (w := 4) (t := t) (p := p) (a := k) (b := a) (c := b) (X := hb_u2 (hb_u2 G1 32 9 (-1)) 76 0 n) (D := D) (n := n) (fun q hq => (q2 q (by omega)).trans (hrw q hq)) x17
      have hF := c_mConcedeY it ik ip ia ib hPm hN q3
      rw [hb9] at hF
      exact ⟨0, n, _, _, F1, na + 1, 1, 9, 2, by decide, iv, by omega, by omega, by omega, by omega, by omega, h, hF, j5, fun _ => by rw [j6 76 (by omega) (by decide)]; exact q6, en_note hd hLG hmi hrf hlt (by decide) hP.2.2.2.2.1 hv h1 h2 q1 q2 q3 q4 q5 q7 (by decide) it ip ik ia ib⟩
  · have h := c_LconcedeR (c_concedeR (l := l) (F := F) (na := na) hl it ik ip ia ib hP hG)
    have hPm : ¬ ((0 ≤ t ∧ t < 40 ∧ G 51 t ≠ -1) ∧ (0 ≤ k ∧ k < 16 ∧ G 55 k ≠ -1) ∧ (0 ≤ p ∧ p ≤ 3000099) ∧ (0 ≤ a ∧ a ≤ 10000) ∧ 0 ≤ b ∧ b / 10001 ≤ 10000) := fun h => hP ((hM9 G w51 w55 w58 w48).mpr h)
    have hF := c_mConcedeN it ik ip ia ib hPm (c_mNote0 (l := l) (F := F) (na := na)) hG
    exact ⟨1, 0, G, _, F, na, 1, 6, 2, by decide, by decide, by omega, by omega, by omega, by omega, by omega, h, hF, hb_u2_s, fun h => absurd h (by decide), en_I1 hJ hsh hG hbn (by decide)⟩
theorem st_rebuild {l : Launch} (hl : l.stackTraces = false) {t o p : Int} (it : hb_in t) (io : hb_in o) (ip : hb_in p) : hb_stE l bk_I yL_rebuild cL_rebuild 6 [(0, 12, 15, 13), (0, 12, 19, 15)] yX9_rebuild cX9_rebuild 4 [hb_i t, hb_i o, hb_i p] := by
  intro G F na hI
  obtain ⟨D, n, xs, ob, hJ, hsh, hG, hbn⟩ := hI
  obtain ⟨hcl, hd, hLG, hmi, hrf⟩ := bk_of_J hJ
  have hsl := hcl.1
  have hrw := hrf.1
  have h17 := hrf.2.2.1
  have hn200 := hd.2.2.2.2.1
  have hM9 : ∀ X : hb_G, X 51 = D 51 → X 55 = D 55 → X 58 = D 58 → X 48 = D 48 → (((0 ≤ t ∧ t < 40 ∧ G 7 t ≠ -1) ∧ (0 ≤ o ∧ o < 8 ∧ G 20 o ≠ -1) ∧ (0 ≤ p ∧ p ≤ 3000099)) ↔ ((0 ≤ t ∧ t < 40 ∧ X 51 t ≠ -1) ∧ (0 ≤ o ∧ o ≤ 7 ∧ X 58 o ≠ -1) ∧ (0 ≤ p ∧ p ≤ 3000099))) := by
    intro X w51 w55 w58 w48
    rw [en_th hsl, en_od hsl, w51, w58]
  have w51 := hrw 51 (by omega)
  have w55 := hrw 55 (by omega)
  have w58 := hrw 58 (by omega)
  have w48 := hrw 48 (by omega)
  by_cases hP : (0 ≤ t ∧ t < 40 ∧ G 7 t ≠ -1) ∧ (0 ≤ o ∧ o < 8 ∧ G 20 o ≠ -1) ∧ (0 ≤ p ∧ p ≤ 3000099)
  · have hrow : ∀ i, hb_in (hb_er 5 t p o 0 0 0 0 i) := en_rowin (by decide) it ip io (by decide) (by decide) (by decide) (by decide)
    by_cases hn : n = 200
    · obtain ⟨f1, f2, f3⟩ := en_full hcl hG hrow
      have hA := c_addFull (l := l) (F := F) (G := hb_u1 G (77 + na) (hb_er 5 t p o 0 0 0 0)) (Nat.lt_succ_self na) (by rw [f1.2.1, hn]; decide) f2
      have h := c_LrebuildX (c_rebuildX it io ip hP (c_enterN hl (Nat.lt_succ_self na) hA) hG)
      have hN := c_mNote2 (l := l) (F := F) (na := na + 1) (G := hb_u1 G (77 + na) (hb_er 5 t p o 0 0 0 0)) (k := 5) (t := t) (at9 := p) (a := o) (b := 0) (c := 0) (by rw [f3 47 (by omega), h17, hn]; rfl) f2
      have hPm := (hM9 (hb_u1 G (77 + na) (hb_er 5 t p o 0 0 0 0)) ((f3 51 (by omega)).trans w51) ((f3 55 (by omega)).trans w55) ((f3 58 (by omega)).trans w58) ((f3 48 (by omega)).trans w48)).mp hP
      have hF := c_mRebuildY it io ip hPm hN f2
      exact ⟨2, 0, _, _, F, na + 1, 2, 15, 2, by decide, by decide, by omega, by omega, by omega, by omega, by omega, h, hF, hb_u2_s, fun h => absurd h (by decide), en_keep f1 (fun q _ _ _ _ hq => f3 q hq) f2 (f3 6 (by omega)) (f3 11 (by omega)) hd hLG hmi hrf hsh hbn (by decide)⟩
    · have hlt : n < 200 := by omega
      have hv : bk_vd (bk_E D n 5 t p o 0 0) n := by
        have hD := (hM9 D rfl rfl rfl rfl).mp hP
        exact en_vd (by decide) ⟨⟨hD.1.1, hD.1.2.1⟩, hD.1.2.2⟩ hD.2.2 (fun h => absurd h (by decide)) (fun h => absurd h (by decide)) (fun h => absurd h (by decide)) (fun h => absurd h (by decide)) (fun _ => ⟨hD.2.1.1, by omega⟩)
      obtain ⟨e1, e2, e3, e4, e5, e6, e7⟩ := bk_E_at (D := D) (n := n) (w := 5) (t := t) (p := p) (a := o) (b := 0) (c := 0)
      obtain ⟨x1, x2, hx, h1, h2, hacc, -⟩ := bk_add (l := l) (row := hb_er 5 t p o 0 0 0 0) hcl hd hlt (bk_E_ag (w := 5) (t := t) (p := p) (a := o) (b := 0) (c := 0)) hv hG hrow (en_obj rfl (fun h => absurd h (by decide)) (fun h => absurd h (by decide)) (fun _ => rfl) (fun h => absurd h (by decide))) (by rw [e4]; rfl) (by rw [e1]; rfl)
      obtain ⟨G1, F1, hA, hclE, hr, hR⟩ := hacc (Or.inl (by rw [e1]; decide))
      have iv : hb_in (n : Int) := by constructor <;> omega
      have h := c_LrebuildY (c_rebuildY it io ip hP (c_enterY (Nat.lt_succ_self na) iv (by omega) hA) hG) iv
      obtain ⟨q1, q2, q3, q4, q5, q6, q7⟩ := bk_acc (v := n) hclE hr hR hbn iv
      have x47 := q2 47 (by omega)
      have x17 : hb_u2 (hb_u2 G1 32 9 (-1)) 76 0 n 47 17 = n := by rw [x47]; exact h17
      have hN := c_mNoteY (l := l) (F := F1) (na := na + 1) (G := hb_u2 (hb_u2 G1 32 9 (-1)) 76 0 n) (k := 5) (t := t) (at9 := p) (a := o) (b := 0) (c := 0) (by rw [x17]; omega) (by rw [x17]; omega) q3
      have hPm := (hM9 (hb_u2 (hb_u2 G1 32 9 (-1)) 76 0 n) ((q2 51 (by omega)).trans w51) ((q2 55 (by omega)).trans w55) ((q2 58 (by omega)).trans w58) ((q2 48 (by omega)).trans w48)).mp hP
      have hb9 : hb_u2 (hb_u2 G1 32 9 (-1)) 76 0 n 47 17 + 1 - 1 = n := by rw [x17]; omega
      subst hx
      obtain ⟨j1, j2, j3, j4, j5, j6⟩ := bk_je (w := 5) (t := t) (p := p) (a := o) (b := 0) (c := 0) (X := hb_u2 (hb_u2 G1 32 9 (-1)) 76 0 n) (D := D) (n := n) (fun q hq => (q2 q (by omega)).trans (hrw q hq)) x17
      have hF := c_mRebuildY it io ip hPm hN q3
      rw [hb9] at hF
      exact ⟨0, n, _, _, F1, na + 1, 1, 9, 2, by decide, iv, by omega, by omega, by omega, by omega, by omega, h, hF, j5, fun _ => by rw [j6 76 (by omega) (by decide)]; exact q6, en_note hd hLG hmi hrf hlt (by decide) (by decide) hv h1 h2 q1 q2 q3 q4 q5 q7 (by decide) it ip io (by decide) (by decide)⟩
  · have h := c_LrebuildR (c_rebuildR (l := l) (F := F) (na := na) hl it io ip hP hG)
    have hPm : ¬ ((0 ≤ t ∧ t < 40 ∧ G 51 t ≠ -1) ∧ (0 ≤ o ∧ o ≤ 7 ∧ G 58 o ≠ -1) ∧ (0 ≤ p ∧ p ≤ 3000099)) := fun h => hP ((hM9 G w51 w55 w58 w48).mpr h)
    have hF := c_mRebuildN it io ip hPm (c_mNote0 (l := l) (F := F) (na := na)) hG
    exact ⟨1, 0, G, _, F, na, 1, 6, 2, by decide, by decide, by omega, by omega, by omega, by omega, by omega, h, hF, hb_u2_s, fun h => absurd h (by decide), en_I1 hJ hsh hG hbn (by decide)⟩
theorem st_flight {l : Launch} (hl : l.stackTraces = false) {m p a b : Int} (im : hb_in m) (ip : hb_in p) (ia : hb_in a) (ib : hb_in b) : hb_stE l bk_I yL_flight cL_flight 7 [(0, 14, 17, 13), (0, 14, 21, 15)] yX9_flight cX9_flight 7 [hb_i m, hb_i p, hb_i a, hb_i b] := by
  intro G F na hI
  obtain ⟨D, n, xs, ob, hJ, hsh, hG, hbn⟩ := hI
  obtain ⟨hcl, hd, hLG, hmi, hrf⟩ := bk_of_J hJ
  have hsl := hcl.1
  have hrw := hrf.1
  have h17 := hrf.2.2.1
  have hn200 := hd.2.2.2.2.1
  have hM9 : ∀ X : hb_G, X 51 = D 51 → X 55 = D 55 → X 58 = D 58 → X 48 = D 48 → ((((0 ≤ m ∧ m < 40 ∧ G 7 m ≠ -1) ∧ ¬ ∃ i, 0 ≤ i ∧ i < 48 ∧ G 2 i = G 7 m) ∧ (0 ≤ p ∧ p ≤ 3000099) ∧ (0 ≤ a ∧ a ≤ 100000) ∧ (0 ≤ b ∧ b ≤ 100000)) ↔ (hb_jm X m ∧ (0 ≤ p ∧ p ≤ 3000099) ∧ (0 ≤ a ∧ a ≤ 100000) ∧ (0 ≤ b ∧ b ≤ 100000))) := by
    intro X w51 w55 w58 w48
    have h9 : ((0 ≤ m ∧ m < 40 ∧ G 7 m ≠ -1) ∧ ¬ ∃ i, 0 ≤ i ∧ i < 48 ∧ G 2 i = G 7 m) ↔ hb_jm X m := by
      rw [en_jm w51 w48]
      exact bk_im hsl (fun _ _ => rfl)
    rw [h9]
  have w51 := hrw 51 (by omega)
  have w55 := hrw 55 (by omega)
  have w58 := hrw 58 (by omega)
  have w48 := hrw 48 (by omega)
  by_cases hP : ((0 ≤ m ∧ m < 40 ∧ G 7 m ≠ -1) ∧ ¬ ∃ i, 0 ≤ i ∧ i < 48 ∧ G 2 i = G 7 m) ∧ (0 ≤ p ∧ p ≤ 3000099) ∧ (0 ≤ a ∧ a ≤ 100000) ∧ (0 ≤ b ∧ b ≤ 100000)
  · have hrow : ∀ i, hb_in (hb_er 2 m p 0 0 a b 0 i) := en_rowin (by decide) im ip (by decide) (by decide) ia ib (by decide)
    by_cases hn : n = 200
    · obtain ⟨f1, f2, f3⟩ := en_full hcl hG hrow
      have hA := c_addFull (l := l) (F := F) (G := hb_u1 G (77 + na) (hb_er 2 m p 0 0 a b 0)) (Nat.lt_succ_self na) (by rw [f1.2.1, hn]; decide) f2
      have h := c_LflightX (c_flightX im ip ia ib hP (c_enterN hl (Nat.lt_succ_self na) hA) hG)
      have hN := c_mNote2 (l := l) (F := F) (na := na + 1) (G := hb_u1 G (77 + na) (hb_er 2 m p 0 0 a b 0)) (k := 0) (t := m) (at9 := p) (a := a) (b := b) (c := 0) (by rw [f3 47 (by omega), h17, hn]; rfl) f2
      have hPm := (hM9 (hb_u1 G (77 + na) (hb_er 2 m p 0 0 a b 0)) ((f3 51 (by omega)).trans w51) ((f3 55 (by omega)).trans w55) ((f3 58 (by omega)).trans w58) ((f3 48 (by omega)).trans w48)).mp hP
      have hF := c_mFlightY1 im ip ia ib hPm hN (f2.u2 (by decide)) (by rw [hb_u2_s]; decide) f2
      exact ⟨2, 0, _, _, F, na + 1, 2, 15, 6, by decide, by decide, by omega, by omega, by omega, by omega, by omega, h, hF, hb_u2_s, fun h => absurd h (by decide), en_keep f1 (fun q _ _ _ _ hq => f3 q hq) f2 (f3 6 (by omega)) (f3 11 (by omega)) hd hLG hmi hrf hsh hbn (by decide)⟩
    · have hlt : n < 200 := by omega
      have hv : bk_vd (bk_E D n 0 m p a b 0) n := by
        have hD := (hM9 D rfl rfl rfl rfl).mp hP
        exact en_vd (by decide) ⟨⟨hD.1.1.1, hD.1.1.2.1⟩, hD.1.1.2.2⟩ hD.2.1 (fun _ => ⟨hD.1, hD.2.2⟩) (fun h => absurd h (by decide)) (fun h => absurd h (by decide)) (fun h => absurd h (by decide)) (fun h => absurd h (by decide))
      obtain ⟨e1, e2, e3, e4, e5, e6, e7⟩ := bk_E_at (D := D) (n := n) (w := 0) (t := m) (p := p) (a := a) (b := b) (c := 0)
      obtain ⟨x1, x2, hx, h1, h2, hacc, -⟩ := bk_add (l := l) (row := hb_er 2 m p 0 0 a b 0) hcl hd hlt (bk_E_ag (w := 0) (t := m) (p := p) (a := a) (b := b) (c := 0)) hv hG hrow (en_obj rfl (fun h => absurd h (by decide)) (fun _ => ⟨rfl, rfl⟩) (fun h => absurd h (by decide)) (fun h => absurd h (by decide))) (by rw [e4]; rfl) (by rw [e1]; rfl)
      obtain ⟨G1, F1, hA, hclE, hr, hR⟩ := hacc (Or.inl (by rw [e1]; decide))
      have iv : hb_in (n : Int) := by constructor <;> omega
      have h := c_LflightY (c_flightY im ip ia ib hP (c_enterY (Nat.lt_succ_self na) iv (by omega) hA) hG) iv
      obtain ⟨q1, q2, q3, q4, q5, q6, q7⟩ := bk_acc (v := n) hclE hr hR hbn iv
      have x47 := q2 47 (by omega)
      have x17 : hb_u2 (hb_u2 G1 32 9 (-1)) 76 0 n 47 17 = n := by rw [x47]; exact h17
      have hN := c_mNoteY (l := l) (F := F1) (na := na + 1) (G := hb_u2 (hb_u2 G1 32 9 (-1)) 76 0 n) (k := 0) (t := m) (at9 := p) (a := a) (b := b) (c := 0) (by rw [x17]; omega) (by rw [x17]; omega) q3
      have hPm := (hM9 (hb_u2 (hb_u2 G1 32 9 (-1)) 76 0 n) ((q2 51 (by omega)).trans w51) ((q2 55 (by omega)).trans w55) ((q2 58 (by omega)).trans w58) ((q2 48 (by omega)).trans w48)).mp hP
      have hb9 : hb_u2 (hb_u2 G1 32 9 (-1)) 76 0 n 47 17 + 1 - 1 = n := by rw [x17]; omega
      subst hx
      obtain ⟨j1, j2, j3, j4, j5, j6⟩ := bk_je (w := 0) (t := m) (p := p) (a := a) (b := b) (c := 0) (X := hb_u2 (hb_u2 G1 32 9 (-1)) 76 0 n) (D := D) (n := n) (fun q hq => (q2 q (by omega)).trans (hrw q hq)) x17
      have hL := bk_LG_new (fun e he => ((hd.2.2.1 e).mp he).1) (bk_E_ag (w := 0) (t := m) (p := p) (a := a) (b := b) (c := 0)) (by rw [e1]; decide) hLG
      obtain ⟨H, k1, k2, k3, k4⟩ := (en_check (l := l) (F1 := F1) (na := na) (ob' := fun e => if e = n then na else ob e) hd hrf hlt (by decide) hv h1 h2 (fun h => absurd h (by decide)) q2 q3 q7 (by decide) im ip ia ib (by decide)).1 hL
      have hYr := bk_je_rg (w := 0) (t := m) (p := p) (a := a) (b := b) (c := 0) q3 hn200 x17 (by rw [x47, hrf.2.2.2.1]; have := bk_nd_len (bk_nd hd.2.1) (fun e he => ((hd.2.2.1 e).mp he).1); omega) (by decide) im ip ia ib (by decide)
      have hF := c_mFlightY im ip ia ib hPm hN hYr j5 k1 q3
      rw [hb9] at hF
      exact ⟨0, n, _, H, F1, na + 1, 1, 9, 6, by decide, iv, by omega, by omega, by omega, by omega, by omega, h, hF, k2, fun _ => by rw [k3]; exact q6, k4 q1 q4 q5⟩
  · have h := c_LflightR (c_flightR (l := l) (F := F) (na := na) hl im ip ia ib hP hG)
    have hPm : ¬ (hb_jm G m ∧ (0 ≤ p ∧ p ≤ 3000099) ∧ (0 ≤ a ∧ a ≤ 100000) ∧ (0 ≤ b ∧ b ≤ 100000)) := fun h => hP ((hM9 G w51 w55 w58 w48).mpr h)
    have hF := c_mFlightN1 im ip ia ib hPm (c_mNote0 (l := l) (F := F) (na := na)) (hG.u2 (by decide)) (by rw [hb_u2_s]; decide) hG
    exact ⟨1, 0, G, _, F, na, 1, 6, 6, by decide, by decide, by omega, by omega, by omega, by omega, by omega, h, hF, hb_u2_s, fun h => absurd h (by decide), en_I1 hJ hsh hG hbn (by decide)⟩
