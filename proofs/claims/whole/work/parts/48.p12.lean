/-! the beginning -/
theorem bk_by {G : hb_G} {t : Int} (h9 : 0 ≤ G 9 t ∧ G 9 t ≤ 1000000) (h10 : 0 ≤ G 10 t ∧ G 10 t ≤ 1000000) (hiv : ∀ k, 0 ≤ k ∧ k < 16 → (0 ≤ G 15 k ∧ G 15 k ≤ 100000) ∧ (0 ≤ G 16 k ∧ G 16 k ≤ 100000) ∧ (0 ≤ G 17 k ∧ G 17 k ≤ 100000)) (hG : hb_rg G) : ∀ (n : Nat), n ≤ 16 →
    hb_rg (hb_by G t n) ∧ (∀ p : Nat, p ≠ 38 → p ≠ 39 → p ≠ 41 → p ≠ 42 → p ≠ 43 → hb_by G t n p = G p) ∧ hb_by G t n 38 = hb_uf (G 38) t (G 9 t) ∧ hb_by G t n 39 = hb_uf (G 39) t (G 10 t) ∧ (∀ k, 0 ≤ k ∧ k < 16 → (hb_by G t n 41 (t * 16 + k) = if k < n ∧ G 13 k ≠ -1 then G 9 t + G 15 k else G 41 (t * 16 + k)) ∧ (hb_by G t n 42 (t * 16 + k) = if k < n ∧ G 13 k ≠ -1 then G 10 t + G 16 k else G 42 (t * 16 + k)) ∧ (hb_by G t n 43 (t * 16 + k) = if k < n ∧ G 13 k ≠ -1 then G 17 k else G 43 (t * 16 + k))) ∧ (∀ i, i < t * 16 ∨ t * 16 + 16 ≤ i → hb_by G t n 41 i = G 41 i ∧ hb_by G t n 42 i = G 42 i ∧ hb_by G t n 43 i = G 43 i)
  | 0, _ => by
    refine ⟨(hG.u2 (hG _ _)).u2 (hG _ _), fun p a1 a2 _ _ _ => ?_, rfl, rfl, fun k hk => ?_, fun i hi => ⟨rfl, rfl, rfl⟩⟩
    · unfold hb_by; rw [hb_u2_n a2, hb_u2_n a1]
    · rw [if_neg (fun h => by omega), if_neg (fun h => by omega), if_neg (fun h => by omega)]; exact ⟨rfl, rfl, rfl⟩
  | n + 1, hn => by
    obtain ⟨i0, i1, i2, i3, i4, i5⟩ := bk_by h9 h10 hiv hG n (by omega)
    unfold hb_by
    rw [i1 13 (by decide) (by decide) (by decide) (by decide) (by decide)]
    have v1 : hb_by G t n 38 t = G 9 t := by rw [i2]; unfold hb_uf; rw [if_pos rfl]
    have v2 : hb_by G t n 39 t = G 10 t := by rw [i3]; unfold hb_uf; rw [if_pos rfl]
    rw [v1, v2, i1 15 (by decide) (by decide) (by decide) (by decide) (by decide), i1 16 (by decide) (by decide) (by decide) (by decide) (by decide), i1 17 (by decide) (by decide) (by decide) (by decide) (by decide)]
    have hv := hiv n (by omega)
    by_cases e : 0 ≤ (n : Int) ∧ (n : Int) < 16 ∧ G 13 n ≠ -1
    · rw [if_pos e]
      refine ⟨((i0.u2 (by constructor <;> omega)).u2 (by constructor <;> omega)).u2 (by constructor <;> omega), fun p a1 a2 a3 a4 a5 => ?_, ?_, ?_, fun k hk => ?_, fun i hi => ?_⟩
      · rw [hb_u2_n a5, hb_u2_n a4, hb_u2_n a3]; exact i1 p a1 a2 a3 a4 a5
      · rw [hb_u2_n (by decide), hb_u2_n (by decide), hb_u2_n (by decide)]; exact i2
      · rw [hb_u2_n (by decide), hb_u2_n (by decide), hb_u2_n (by decide)]; exact i3
      · rw [hb_u2_n (show 41 ≠ 43 by decide), hb_u2_n (show 41 ≠ 42 by decide), hb_u2_n (show 42 ≠ 43 by decide)]
        by_cases ek : k = n
        · subst ek
          rw [hb_u2_s, hb_u2_s, hb_u2_s, if_pos ⟨by omega, e.2.2⟩, if_pos ⟨by omega, e.2.2⟩, if_pos ⟨by omega, e.2.2⟩]
          exact ⟨rfl, rfl, rfl⟩
        · rw [hb_u2_i (by omega), hb_u2_i (by omega), hb_u2_i (by omega), hb_u2_n (show 42 ≠ 41 by decide), hb_u2_n (show 43 ≠ 42 by decide), hb_u2_n (show 43 ≠ 41 by decide), (i4 k hk).1, (i4 k hk).2.1, (i4 k hk).2.2]
          by_cases e5 : k < (n : Int) ∧ G 13 k ≠ -1
          · have e6 : k < ((n + 1 : Nat) : Int) ∧ G 13 k ≠ -1 := ⟨by omega, e5.2⟩
            rw [if_pos e5, if_pos e5, if_pos e5, if_pos e6, if_pos e6, if_pos e6]; exact ⟨rfl, rfl, rfl⟩
          · have e6 : ¬ (k < ((n + 1 : Nat) : Int) ∧ G 13 k ≠ -1) := fun h => e5 ⟨by omega, h.2⟩
            rw [if_neg e5, if_neg e5, if_neg e5, if_neg e6, if_neg e6, if_neg e6]; exact ⟨rfl, rfl, rfl⟩
      · rw [hb_u2_n (show 41 ≠ 43 by decide), hb_u2_n (show 41 ≠ 42 by decide), hb_u2_n (show 42 ≠ 43 by decide), hb_u2_i (by omega), hb_u2_i (by omega), hb_u2_i (by omega), hb_u2_n (show 42 ≠ 41 by decide), hb_u2_n (show 43 ≠ 42 by decide), hb_u2_n (show 43 ≠ 41 by decide)]
        exact i5 i hi
    · rw [if_neg e]
      refine ⟨i0, i1, i2, i3, fun k hk => ?_, i5⟩
      rw [(i4 k hk).1, (i4 k hk).2.1, (i4 k hk).2.2]
      by_cases e5 : k < (n : Int) ∧ G 13 k ≠ -1
      · have e6 : k < ((n + 1 : Nat) : Int) ∧ G 13 k ≠ -1 := ⟨by omega, e5.2⟩
        rw [if_pos e5, if_pos e5, if_pos e5, if_pos e6, if_pos e6, if_pos e6]; exact ⟨rfl, rfl, rfl⟩
      · have e6 : ¬ (k < ((n + 1 : Nat) : Int) ∧ G 13 k ≠ -1) := fun h => by
          by_cases ek : k = n
          · subst ek; exact e ⟨by omega, by omega, h.2⟩
          · exact e5 ⟨by omega, h.2⟩
        rw [if_neg e5, if_neg e5, if_neg e5, if_neg e6, if_neg e6, if_neg e6]; exact ⟨rfl, rfl, rfl⟩
def bk_bs (G : hb_G) : Prop := (∀ t, 0 ≤ t ∧ t < 40 → (0 ≤ G 9 t ∧ G 9 t ≤ 1000000) ∧ (0 ≤ G 10 t ∧ G 10 t ≤ 1000000)) ∧ (∀ k, 0 ≤ k ∧ k < 16 → (0 ≤ G 15 k ∧ G 15 k ≤ 100000) ∧ (0 ≤ G 16 k ∧ G 16 k ≤ 100000) ∧ (0 ≤ G 17 k ∧ G 17 k ≤ 100000))
theorem bk_bs_of {D G : hb_G} (hs : bk_sb D) (hsl : bk_sl D G) : bk_bs G := by
  refine ⟨fun t ht => ?_, fun k hk => ?_⟩
  · have h1 := hs.2.2.1 t ht
    have h2 := hsl.2.1 t ht
    rw [h2.2.1, h2.2.2.1]; exact ⟨h1.2.1, h1.2.2.1⟩
  · have h1 := (hs.2.2.2.1 k hk).2.1
    have h2 := hsl.2.2.1 k hk
    rw [h2.2.1, h2.2.2.1, h2.2.2.2.1]; exact ⟨h1 0 (by decide), h1 1 (by decide), h1 2 (by decide)⟩
theorem bk_fil_rg {G : hb_G} (hG : hb_rg G) {q n : Nat} {v : Int} (hv : hb_in v) : hb_rg (hb_fil G q n v) := by
  intro p i
  unfold hb_fil hb_u1
  split
  · unfold hb_fl; split
    · exact hv
    · exact hG _ _
  · exact hG _ _
theorem bk_fil_n {G : hb_G} {q n p : Nat} {v : Int} (h : p ≠ q) : hb_fil G q n v p = G p := by
  unfold hb_fil hb_u1; rw [if_neg h]
theorem bk_bg0_rg {G : hb_G} (hG : hb_rg G) : hb_rg (hb_bg0 G) := by
  unfold hb_bg0
  exact bk_fil_rg (bk_fil_rg (bk_fil_rg (bk_fil_rg (bk_fil_rg (hG.u2 (by decide)) (by decide)) (by decide)) (by decide)) (by decide)) (by decide)
theorem bk_bg {G : hb_G} (hb : bk_bs G) (hG : hb_rg G) : ∀ (n : Nat), n ≤ 40 →
    hb_rg (hb_bg G n) ∧ (∀ p : Nat, p ≠ 38 → p ≠ 39 → p ≠ 41 → p ≠ 42 → p ≠ 43 → hb_bg G n p = hb_bg0 G p) ∧ (∀ t, 0 ≤ t ∧ t < 40 → (hb_bg G n 38 t = if t < n ∧ G 7 t ≠ -1 then G 9 t else G 38 t) ∧ (hb_bg G n 39 t = if t < n ∧ G 7 t ≠ -1 then G 10 t else G 39 t)) ∧ (∀ t k, 0 ≤ t ∧ t < 40 → 0 ≤ k ∧ k < 16 → (hb_bg G n 41 (t * 16 + k) = if (t < n ∧ G 7 t ≠ -1) ∧ G 13 k ≠ -1 then G 9 t + G 15 k else G 41 (t * 16 + k)) ∧ (hb_bg G n 42 (t * 16 + k) = if (t < n ∧ G 7 t ≠ -1) ∧ G 13 k ≠ -1 then G 10 t + G 16 k else G 42 (t * 16 + k)) ∧ (hb_bg G n 43 (t * 16 + k) = if (t < n ∧ G 7 t ≠ -1) ∧ G 13 k ≠ -1 then G 17 k else G 43 (t * 16 + k)))
  | 0, _ => by
    refine ⟨bk_bg0_rg hG, fun p _ _ _ _ _ => rfl, fun t ht => ?_, fun t k ht hk => ?_⟩
    · rw [if_neg (fun h => by omega), if_neg (fun h => by omega)]; exact ⟨rfl, rfl⟩
    · rw [if_neg (fun h => by omega), if_neg (fun h => by omega), if_neg (fun h => by omega)]; exact ⟨rfl, rfl, rfl⟩
  | n + 1, hn => by
    obtain ⟨i0, i1, i2, i3⟩ := bk_bg hb hG n (by omega)
    have z : ∀ p : Nat, p ≠ 38 → p ≠ 39 → p ≠ 41 → p ≠ 42 → p ≠ 43 → p < 32 → hb_bg G n p = G p := fun p a1 a2 a3 a4 a5 a6 => by
      rw [i1 p a1 a2 a3 a4 a5]
      unfold hb_bg0
      rw [bk_fil_n (by omega), bk_fil_n (by omega), bk_fil_n (by omega), bk_fil_n (by omega), bk_fil_n (by omega), hb_u2_n (by omega)]
    have z7 := z 7 (by decide) (by decide) (by decide) (by decide) (by decide) (by decide)
    have z9 := z 9 (by decide) (by decide) (by decide) (by decide) (by decide) (by decide)
    have z10 := z 10 (by decide) (by decide) (by decide) (by decide) (by decide) (by decide)
    have z13 := z 13 (by decide) (by decide) (by decide) (by decide) (by decide) (by decide)
    have z15 := z 15 (by decide) (by decide) (by decide) (by decide) (by decide) (by decide)
    have z16 := z 16 (by decide) (by decide) (by decide) (by decide) (by decide) (by decide)
    have z17 := z 17 (by decide) (by decide) (by decide) (by decide) (by decide) (by decide)
    unfold hb_bg
    rw [z7]
    by_cases e : 0 ≤ (n : Int) ∧ (n : Int) < 40 ∧ G 7 n ≠ -1
    · rw [if_pos e]
      have ht9 : 0 ≤ (n : Int) ∧ (n : Int) < 40 := ⟨e.1, e.2.1⟩
      obtain ⟨j0, j1, j2, j3, j4, j5⟩ := bk_by (G := hb_bg G n) (t := n) (by rw [z9]; exact (hb.1 _ ht9).1) (by rw [z10]; exact (hb.1 _ ht9).2) (by rw [z15, z16, z17]; exact hb.2) i0 16 (Nat.le_refl _)
      refine ⟨j0, fun p a1 a2 a3 a4 a5 => by rw [j1 p a1 a2 a3 a4 a5]; exact i1 p a1 a2 a3 a4 a5, fun t ht => ?_, fun t k ht hk => ?_⟩
      · rw [j2, j3, z9, z10]
        unfold hb_uf
        by_cases et : t = n
        · rw [if_pos et, if_pos et, et, if_pos ⟨by omega, e.2.2⟩, if_pos ⟨by omega, e.2.2⟩]; exact ⟨rfl, rfl⟩
        · rw [if_neg et, if_neg et, (i2 t ht).1, (i2 t ht).2]
          by_cases e5 : t < (n : Int) ∧ G 7 t ≠ -1
          · have e6 : t < ((n + 1 : Nat) : Int) ∧ G 7 t ≠ -1 := ⟨by omega, e5.2⟩
            rw [if_pos e5, if_pos e5, if_pos e6, if_pos e6]; exact ⟨rfl, rfl⟩
          · have e6 : ¬ (t < ((n + 1 : Nat) : Int) ∧ G 7 t ≠ -1) := fun h => e5 ⟨by omega, h.2⟩
            rw [if_neg e5, if_neg e5, if_neg e6, if_neg e6]; exact ⟨rfl, rfl⟩
      · by_cases et : t = n
        · subst et
          have j4 := j4 k hk
          rw [z9, z10, z13, z15, z16, z17, (i3 n k ht hk).1, (i3 n k ht hk).2.1, (i3 n k ht hk).2.2] at j4
          have hk16 : k < ((16 : Nat) : Int) := by omega
          rw [j4.1, j4.2.1, j4.2.2]
          by_cases e5 : G 13 k ≠ -1
          · have e6 : ((n : Int) < ((n + 1 : Nat) : Int) ∧ G 7 n ≠ -1) ∧ G 13 k ≠ -1 := ⟨⟨by omega, e.2.2⟩, e5⟩
            have a1 : k < ((16 : Nat) : Int) ∧ G 13 k ≠ -1 := ⟨hk16, e5⟩
            rw [if_pos a1, if_pos a1, if_pos a1, if_pos e6, if_pos e6, if_pos e6]; exact ⟨rfl, rfl, rfl⟩
          · have a1 : ¬ (k < ((16 : Nat) : Int) ∧ G 13 k ≠ -1) := fun h => e5 h.2
            have a2 : ∀ m : Nat, ¬ (((n : Int) < (m : Int) ∧ G 7 n ≠ -1) ∧ G 13 k ≠ -1) := fun m h => e5 h.2
            rw [if_neg a1, if_neg a1, if_neg a1, if_neg (a2 _), if_neg (a2 _), if_neg (a2 _), if_neg (a2 _), if_neg (a2 _), if_neg (a2 _)]; exact ⟨rfl, rfl, rfl⟩
        · have j5 := j5 (t * 16 + k) (by omega)
          rw [j5.1, j5.2.1, j5.2.2, (i3 t k ht hk).1, (i3 t k ht hk).2.1, (i3 t k ht hk).2.2]
          by_cases e5 : (t < (n : Int) ∧ G 7 t ≠ -1) ∧ G 13 k ≠ -1
          · have e6 : (t < ((n + 1 : Nat) : Int) ∧ G 7 t ≠ -1) ∧ G 13 k ≠ -1 := ⟨⟨by omega, e5.1.2⟩, e5.2⟩
            rw [if_pos e5, if_pos e5, if_pos e5, if_pos e6, if_pos e6, if_pos e6]; exact ⟨rfl, rfl, rfl⟩
          · have e6 : ¬ ((t < ((n + 1 : Nat) : Int) ∧ G 7 t ≠ -1) ∧ G 13 k ≠ -1) := fun h => e5 ⟨⟨by omega, h.1.2⟩, h.2⟩
            rw [if_neg e5, if_neg e5, if_neg e5, if_neg e6, if_neg e6, if_neg e6]; exact ⟨rfl, rfl, rfl⟩
    · rw [if_neg e]
      have hne : ∀ t : Int, t = n → ¬ G 7 t ≠ -1 := fun t h9 h8 => e ⟨by omega, by omega, by rw [← h9]; exact h8⟩
      refine ⟨i0, i1, fun t ht => ?_, fun t k ht hk => ?_⟩
      · rw [(i2 t ht).1, (i2 t ht).2]
        by_cases e5 : t < (n : Int) ∧ G 7 t ≠ -1
        · have e6 : t < ((n + 1 : Nat) : Int) ∧ G 7 t ≠ -1 := ⟨by omega, e5.2⟩
          rw [if_pos e5, if_pos e5, if_pos e6, if_pos e6]; exact ⟨rfl, rfl⟩
        · have e6 : ¬ (t < ((n + 1 : Nat) : Int) ∧ G 7 t ≠ -1) := fun h => by
            by_cases et : t = n
            · exact hne t et h.2
            · exact e5 ⟨by omega, h.2⟩
          rw [if_neg e5, if_neg e5, if_neg e6, if_neg e6]; exact ⟨rfl, rfl⟩
      · rw [(i3 t k ht hk).1, (i3 t k ht hk).2.1, (i3 t k ht hk).2.2]
        by_cases e5 : (t < (n : Int) ∧ G 7 t ≠ -1) ∧ G 13 k ≠ -1
        · have e6 : (t < ((n + 1 : Nat) : Int) ∧ G 7 t ≠ -1) ∧ G 13 k ≠ -1 := ⟨⟨by omega, e5.1.2⟩, e5.2⟩
          rw [if_pos e5, if_pos e5, if_pos e5, if_pos e6, if_pos e6, if_pos e6]; exact ⟨rfl, rfl, rfl⟩
        · have e6 : ¬ ((t < ((n + 1 : Nat) : Int) ∧ G 7 t ≠ -1) ∧ G 13 k ≠ -1) := fun h => by
            by_cases et : t = n
            · exact hne t et h.1.2
            · exact e5 ⟨⟨by omega, h.1.2⟩, h.2⟩
          rw [if_neg e5, if_neg e5, if_neg e5, if_neg e6, if_neg e6, if_neg e6]; exact ⟨rfl, rfl, rfl⟩
/-! shown -/
def bk_kq (G H : hb_G) : Prop := ∀ p : Nat, (p < 32 ∨ p = 33 ∨ p = 37 ∨ p = 40 ∨ 45 < p) → H p = G p
theorem bk_kq.rf {G : hb_G} : bk_kq G G := fun _ _ => rfl
theorem bk_kq.tr {G H K : hb_G} (h1 : bk_kq G H) (h2 : bk_kq H K) : bk_kq G K := fun p hp => (h2 p hp).trans (h1 p hp)
theorem bk_kp.kq {G H : hb_G} (h : bk_kp G H) : bk_kq G H := fun p hp => h p (by omega)
theorem bk_kq_32 {G : hb_G} {i v : Int} : bk_kq G (hb_u2 G 32 i v) := fun p hp => hb_u2_n (by omega)
theorem bk_sl.kq {D G H : hb_G} (h : bk_sl D G) (hk : bk_kq G H) : bk_sl D H := by
  unfold bk_sl
  rw [hk 2 (by omega), hk 7 (by omega), hk 9 (by omega), hk 10 (by omega), hk 11 (by omega), hk 13 (by omega), hk 15 (by omega), hk 16 (by omega), hk 17 (by omega), hk 18 (by omega), hk 20 (by omega), hk 21 (by omega), hk 22 (by omega), hk 23 (by omega), hk 24 (by omega), hk 4 (by omega), hk 5 (by omega)]
  exact h
theorem bk_obj.kq {D G H : hb_G} {e o : Nat} (h : bk_obj D G e (77 + o)) (hk : bk_kq G H) : bk_obj D H e (77 + o) := by
  unfold bk_obj
  rw [hk (77 + o) (by omega)]
  exact h
theorem bk_SD_32 {D G : hb_G} {r : List Nat} {i v : Int} (h : bk_SD D G r) : bk_SD D (hb_u2 G 32 i v) r := h
theorem bk_bn_32 {G : hb_G} {i v : Int} (h : hb_bn G) : hb_bn (hb_u2 G 32 i v) := bk_bn_c (fun p hp => hb_u2_n (by omega)) h
/-- all begins -/
theorem bk_begin {D G : hb_G} (hs : bk_sb D) (hsl : bk_sl D G) (hG : hb_rg G) (hbn : hb_bn G) : bk_SD D (hb_bg G 40) [] ∧ bk_kq G (hb_bg G 40) ∧ hb_rg (hb_bg G 40) ∧ hb_bn (hb_bg G 40) ∧ hb_bg G 40 32 10 = 0 ∧ hb_bg G 40 32 9 = G 32 9 := by
  have hb := bk_bs_of hs hsl
  obtain ⟨i0, i1, i2, i3⟩ := bk_bg hb hG 40 (Nat.le_refl _)
  have z := fun p a1 a2 a3 a4 a5 => i1 p a1 a2 a3 a4 a5
  have z34 : hb_bg G 40 34 = hb_fl (G 34) 40 (-1) := (z 34 (by decide) (by decide) (by decide) (by decide) (by decide)).trans rfl
  have z35 : hb_bg G 40 35 = hb_fl (G 35) 40 (-1) := (z 35 (by decide) (by decide) (by decide) (by decide) (by decide)).trans rfl
  have z36 : hb_bg G 40 36 = hb_fl (G 36) 160 (-1) := (z 36 (by decide) (by decide) (by decide) (by decide) (by decide)).trans rfl
  have z44 : hb_bg G 40 44 = hb_fl (G 44) 40 0 := (z 44 (by decide) (by decide) (by decide) (by decide) (by decide)).trans rfl
  have z45 : hb_bg G 40 45 = hb_fl (G 45) 40 0 := (z 45 (by decide) (by decide) (by decide) (by decide) (by decide)).trans rfl
  have z32 : hb_bg G 40 32 = hb_uf (G 32) 10 0 := (z 32 (by decide) (by decide) (by decide) (by decide) (by decide)).trans rfl
  have fl : ∀ (g : Int → Int) (n v i : Int), 0 ≤ i ∧ i < n → hb_fl g n v i = v := fun g n v i h => if_pos h
  refine ⟨⟨⟨fun t ht => ?_, fun a p ha hp => ?_⟩, fun t ht hk => ?_, fun t k ht hk h1 h2 => ?_, fun t k ht hk => ?_, fun t o ht ho => ?_⟩, fun p hp => ?_, i0, ⟨fun i hi u hu => ?_, fun t ht => ?_⟩, ?_, ?_⟩
  · rw [z34, z35, fl _ _ _ _ ht, fl _ _ _ _ ht]; exact ⟨rfl, rfl⟩
  · refine Or.inl ⟨?_, fun c hc => ?_⟩
    · rw [z36, fl _ _ _ _ (by omega)]
    · rw [z34, fl _ _ _ _ hc]; rintro ⟨h, -⟩; omega
  · have h7 := hsl.2.1 t ht
    rw [(i2 t ht).1, (i2 t ht).2, if_pos ⟨by omega, by rw [h7.1]; exact hk⟩, if_pos ⟨by omega, by rw [h7.1]; exact hk⟩, h7.2.1, h7.2.2.1]
    exact ⟨rfl, rfl⟩
  · have h7 := hsl.2.1 t ht
    have h13 := hsl.2.2.1 k hk
    have hc : (t < ((40 : Nat) : Int) ∧ G 7 t ≠ -1) ∧ G 13 k ≠ -1 := ⟨⟨by omega, by rw [h7.1]; exact h1⟩, by rw [h13.1]; exact h2⟩
    rw [(i3 t k ht hk).1, (i3 t k ht hk).2.1, (i3 t k ht hk).2.2, if_pos hc, if_pos hc, if_pos hc, h7.2.1, h7.2.2.1, h13.2.1, h13.2.2.1, h13.2.2.2.1]
    unfold bk_DU
    rw [if_neg (by decide), if_pos rfl, if_neg (by decide), if_neg (by decide), if_pos rfl]
    exact ⟨rfl, rfl, (Int.zero_add _).symm⟩
  · rw [z44, fl _ _ _ _ ht]
    exact ⟨fun _ => rfl, fun _ => bk_b0⟩
  · rw [z45, fl _ _ _ _ ht]
    exact ⟨fun _ h => (by obtain ⟨f, hf, -⟩ := h; exact nomatch hf), fun _ => bk_b0⟩
  · rw [z p (by omega) (by omega) (by omega) (by omega) (by omega)]
    unfold hb_bg0
    rw [bk_fil_n (by omega), bk_fil_n (by omega), bk_fil_n (by omega), bk_fil_n (by omega), bk_fil_n (by omega), hb_u2_n (by omega)]
  · have hd := i3 (i / 16) (i % 16) (by omega) (by omega)
    rw [show i / 16 * 16 + i % 16 = i by omega] at hd
    have b1 := hb.1 (i / 16) (by omega)
    have b2 := hb.2 (i % 16) (by omega)
    rcases hu with rfl | rfl | rfl
    · rw [hd.1]; split
      · omega
      · exact hbn.1 i hi 41 (by omega)
    · rw [hd.2.1]; split
      · omega
      · exact hbn.1 i hi 42 (by omega)
    · rw [hd.2.2]; split
      · omega
      · exact hbn.1 i hi 43 (by omega)
  · have hd := i2 t ht
    have b1 := hb.1 t ht
    have b3 := hbn.2 t ht
    have z11 : hb_bg G 40 11 = G 11 := by
      rw [z 11 (by decide) (by decide) (by decide) (by decide) (by decide)]; rfl
    rw [hd.1, hd.2, z11]
    refine ⟨?_, ?_, b3.2.2⟩
    · split
      · omega
      · exact b3.1
    · split
      · omega
      · exact b3.2.1
  · rw [z32]; rfl
  · rw [z32]; rfl
/-- what the class's words want of the book -/
def bk_C (D G : hb_G) (F : hb_F) (na : Nat) (xs : List Nat) (ob : Nat → Nat) : Prop := bk_sb D ∧ bk_sl D G ∧ xs.Pairwise (bk_bf D) ∧ (∀ e ∈ xs, bk_vd D e) ∧ xs.length ≤ 200 ∧ bk_LG D xs.reverse ∧ (∀ (a : List Nat) (e : Nat) (b : List Nat), xs = a ++ e :: b → D 63 e = 0 → ∀ t, 0 ≤ t ∧ t < 40 → (D 73 (40 * e + t) = D 65 e ↔ hb_tp (bk_TR D a.reverse).1 4 t = D 65 e)) ∧ G 25 4 = xs.length ∧ (∀ e ∈ xs, ob e < na ∧ bk_obj D G e (77 + ob e)) ∧ (∀ (j : Nat) (h : j < xs.length), F 27 j = some (77 + ob xs[j]))
theorem bk_run {l : Launch} {D G : hb_G} {F : hb_F} {na : Nat} {xs : List Nat} {ob : Nat → Nat} (hC : bk_C D G F na xs ob) (hG : hb_rg G) (hbn : hb_bn G) {a c b : List Nat} (hx : xs = a ++ c ++ b) (hSD : bk_SD D G a.reverse) (hnx : G 32 10 = a.length) : ∀ m : Nat, m ≤ c.length → ∃ SS : Nat → hb_G, SS 0 = G ∧
    (∀ j, j < m → ∃ (e : Nat) (H9 : hb_G), xs[a.length + j]? = some e ∧ hb_M l yX4_happen cX4_happen 2 none 3 0 0 [hb_r 32, hb_r (77 + ob e)] (hb_w (SS j) F na) (77 + na) (.inl none) (hb_w H9 F na) (77 + na) ∧ SS (j + 1) = hb_u2 H9 32 10 (H9 32 10 + 1)) ∧
    ∀ j, j ≤ m → bk_SD D (SS j) (a ++ c.take j).reverse ∧ bk_kq G (SS j) ∧ hb_rg (SS j) ∧ hb_bn (SS j) ∧ SS j 32 10 = a.length + j ∧ SS j 32 9 = G 32 9
  | 0, _ => ⟨fun _ => G, rfl, fun j h => absurd h (Nat.not_lt_zero _), fun j hj => by
      have : j = 0 := by omega
      subst this
      refine ⟨by simpa using hSD, bk_kq.rf, hG, hbn, hnx.trans (Int.add_zero _).symm, rfl⟩⟩
  | m + 1, hm => by
    obtain ⟨SS, h0, h1, h2⟩ := bk_run (l := l) hC hG hbn hx hSD hnx m (by omega)
    obtain ⟨g1, g2, g3, g4, g5, g6⟩ := h2 m (Nat.le_refl _)
    obtain ⟨c1, c2, c3, c4, c5, c6, c7, c8, c9, c10⟩ := hC
    have hmc : m < c.length := by omega
    have hsplit : xs = (a ++ c.take m) ++ c[m] :: (c.drop (m + 1) ++ b) := by
      have hc : c.take m ++ c[m] :: c.drop (m + 1) = c := by rw [← List.drop_eq_getElem_cons hmc, List.take_append_drop]
      calc xs = a ++ c ++ b := hx
        _ = a ++ (c.take m ++ c[m] :: c.drop (m + 1)) ++ b := by rw [hc]
        _ = _ := by simp only [List.append_assoc, List.cons_append]
    have hme : c[m] ∈ xs := by rw [hsplit]; simp
    have hget : xs[a.length + m]? = some c[m] := by
      rw [hx, List.getElem?_append_left (by simp; omega), List.getElem?_append_right (by omega), Nat.add_sub_cancel_left]
      exact List.getElem?_eq_getElem hmc
    have hrv : (a ++ c.take (m + 1)).reverse = c[m] :: (a ++ c.take m).reverse := by
      rw [List.take_succ_eq_append_getElem hmc, ← List.append_assoc, List.reverse_append]; rfl
    have hL : bk_LG D (c[m] :: (a ++ c.take m).reverse) := by
      rw [← hrv]
      have : xs.reverse = (c.drop (m + 1) ++ b).reverse ++ (a ++ c.take (m + 1)).reverse := by
        rw [← List.reverse_append]
        congr 1
        have hc : c.take (m + 1) ++ c.drop (m + 1) = c := List.take_append_drop _ _
        calc xs = a ++ c ++ b := hx
          _ = a ++ (c.take (m + 1) ++ c.drop (m + 1)) ++ b := by rw [hc]
          _ = _ := by simp only [List.append_assoc]
      rw [this] at c6
      exact bk_LG_a c6
    have hlen : (a ++ c.take m).reverse.length < 200 := by
      have : xs.length = (a ++ c.take m).length + (1 + (c.drop (m + 1) ++ b).length) := by
        rw [hsplit]; simp; omega
      rw [List.length_reverse]; omega
    obtain ⟨H, hM, hS, hK, hR, hB⟩ := bk_hap (l := l) (F := F) (na := na) (G := SS m) c1 (c2.kq g2) (c4 _ hme) (fun f hf => c4 f (by rw [hsplit]; exact List.mem_append_left _ (List.mem_reverse.mp hf))) hlen hL ((c9 _ hme).2.kq g2) (c9 _ hme).1 (fun h9 => c7 _ _ _ hsplit h9) g1 g3 g4
    have hH : H 32 10 = a.length + m := by rw [hK 32 (by omega)]; exact g5
    refine ⟨fun j => if j ≤ m then SS j else hb_u2 H 32 10 (H 32 10 + 1), ?_, fun j hj => ?_, fun j hj => ?_⟩
    · show (if 0 ≤ m then SS 0 else _) = G
      rw [if_pos (Nat.zero_le _)]; exact h0
    · show ∃ (e : Nat) (H9 : hb_G), _ ∧ hb_M l _ _ _ _ _ _ _ _ (hb_w (if j ≤ m then SS j else _) F na) _ _ _ _ ∧ (if j + 1 ≤ m then SS (j + 1) else _) = _
      rw [if_pos (show j ≤ m by omega)]
      by_cases hj2 : j + 1 ≤ m
      · rw [if_pos hj2]; exact h1 j (by omega)
      · have : j = m := by omega
        subst this
        rw [if_neg hj2]
        exact ⟨_, H, hget, hM, rfl⟩
    · show bk_SD D (if j ≤ m then SS j else _) _ ∧ bk_kq G (if j ≤ m then SS j else _) ∧ hb_rg (if j ≤ m then SS j else _) ∧ hb_bn (if j ≤ m then SS j else _) ∧ (if j ≤ m then SS j else _) 32 10 = _ ∧ (if j ≤ m then SS j else _) 32 9 = _
      by_cases hj2 : j ≤ m
      · rw [if_pos hj2]; exact h2 j hj2
      · have : j = m + 1 := by omega
        subst this
        rw [if_neg hj2, hrv]
        refine ⟨bk_SD_32 hS, (g2.tr hK.kq).tr bk_kq_32, hR.u2 (by rw [hH]; simp only [List.length_reverse, List.length_append, List.length_take] at hlen; constructor <;> omega), bk_bn_32 hB, ?_, ?_⟩
        · rw [hb_u2_s, hH]; omega
        · rw [hb_u2_i (by decide), hK 32 (by omega)]; exact g6
def bk_sh (D G : hb_G) (xs : List Nat) : Prop := G 32 9 = -1 ∨ (0 ≤ G 32 9 ∧ ∃ a b, xs = a ++ b ∧ bk_pf D (G 32 9) a b ∧ G 32 10 = a.length ∧ bk_SD D G a.reverse)
theorem bk_pf_mono {D : hb_G} {p q : Int} {a b c d : List Nat} (h : p ≤ q) : a ++ b = c ++ d → bk_pf D p a b → bk_pf D q c d → ∃ m, c = a ++ m := by
  intro he h1 h2
  rcases List.append_eq_append_iff.mp he with ⟨m, h3, h4⟩ | ⟨m, h3, h4⟩
  · exact ⟨m, h3⟩
  · cases m with
    | nil => exact ⟨[], by rw [h3]; simp⟩
    | cons f m =>
      have h5 := h1.1 f (by rw [h3]; simp)
      have h6 := h2.2 f (by rw [h4]; simp)
      omega
theorem bk_C.kq {D G H : hb_G} {F : hb_F} {na : Nat} {xs : List Nat} {ob : Nat → Nat} (h : bk_C D G F na xs ob) (hk : bk_kq G H) : bk_C D H F na xs ob := by
  obtain ⟨c1, c2, c3, c4, c5, c6, c7, c8, c9, c10⟩ := h
  exact ⟨c1, c2.kq hk, c3, c4, c5, c6, c7, by rw [hk 25 (by omega)]; exact c8, fun e he => ⟨(c9 e he).1, (c9 e he).2.kq hk⟩, c10⟩
def bk_jx (xs : List Nat) (ob : Nat → Nat) (k : Int) : Nat := ob (xs.getD k.toNat 0)
theorem bk_jx_e {xs : List Nat} {ob : Nat → Nat} {i e : Nat} (h : xs[i]? = some e) : bk_jx xs ob (i : Int) = ob e := by
  unfold bk_jx
  rw [Int.toNat_natCast, List.getD_eq_getElem?_getD, h]
  rfl
theorem bk_jx_F {D G : hb_G} {F : hb_F} {na : Nat} {xs : List Nat} {ob : Nat → Nat} (hC : bk_C D G F na xs ob) : ∀ k : Int, 0 ≤ k ∧ k < G 25 4 → F 27 k = some (77 + bk_jx xs ob k) ∧ bk_jx xs ob k < na := by
  obtain ⟨c1, c2, c3, c4, c5, c6, c7, c8, c9, c10⟩ := hC
  intro k hk
  rw [c8] at hk
  have hk2 : k.toNat < xs.length := by omega
  have hkk : ((k.toNat : Nat) : Int) = k := Int.toNat_of_nonneg hk.1
  have h1 := c10 k.toNat hk2
  have h2 := bk_jx_e (ob := ob) (List.getElem?_eq_getElem hk2)
  rw [hkk] at h1 h2
  rw [h2]
  exact ⟨h1, (c9 _ (List.getElem_mem hk2)).1⟩
theorem bk_bgby {D G : hb_G} (hs : bk_sb D) (hsl : bk_sl D G) (hG : hb_rg G) : (∀ k : Nat, k ≤ 40 → hb_rg (hb_bg G k)) ∧ ∀ k : Nat, k < 40 → ∀ j : Nat, j ≤ 16 → hb_rg (hb_by (hb_bg G k) k j) := by
  have hb := bk_bs_of hs hsl
  refine ⟨fun k hk => (bk_bg hb hG k hk).1, fun k hk j hj => ?_⟩
  obtain ⟨i0, i1, i2, i3⟩ := bk_bg hb hG k (by omega)
  have z : ∀ p : Nat, p ≠ 38 → p ≠ 39 → p ≠ 41 → p ≠ 42 → p ≠ 43 → p < 32 → hb_bg G k p = G p := fun p a1 a2 a3 a4 a5 a6 => by
    rw [i1 p a1 a2 a3 a4 a5]
    unfold hb_bg0
    rw [bk_fil_n (by omega), bk_fil_n (by omega), bk_fil_n (by omega), bk_fil_n (by omega), bk_fil_n (by omega), hb_u2_n (by omega)]
  have z9 := z 9 (by decide) (by decide) (by decide) (by decide) (by decide) (by decide)
  have z10 := z 10 (by decide) (by decide) (by decide) (by decide) (by decide) (by decide)
  have z15 := z 15 (by decide) (by decide) (by decide) (by decide) (by decide) (by decide)
  have z16 := z 16 (by decide) (by decide) (by decide) (by decide) (by decide) (by decide)
  have z17 := z 17 (by decide) (by decide) (by decide) (by decide) (by decide) (by decide)
  exact (bk_by (G := hb_bg G k) (t := k) (by rw [z9]; exact (hb.1 _ (by omega)).1) (by rw [z10]; exact (hb.1 _ (by omega)).2) (by rw [z15, z16, z17]; exact hb.2) i0 j hj).1
theorem bk_show {l : Launch} {D G : hb_G} {F : hb_F} {na : Nat} {xs : List Nat} {ob : Nat → Nat} (hC : bk_C D G F na xs ob) (hG : hb_rg G) (hbn : hb_bn G) (hsh : bk_sh D G xs) {pt : Int} (hpt : 0 ≤ pt ∧ pt ≤ 3000099) : ∃ (H : hb_G) (a b : List Nat), xs = a ++ b ∧ bk_pf D pt a b ∧ hb_M l yX4_show cX4_show 2 none 4 0 0 [hb_r 32, hb_i pt] (hb_w G F na) (77 + na) (.inl none) (hb_w H F na) (77 + na) ∧ bk_SD D H a.reverse ∧ bk_kq G H ∧ hb_rg H ∧ hb_bn H ∧ H 32 9 = pt ∧ H 32 10 = a.length := by
  obtain ⟨a, b, hx, hp⟩ := bk_pf_ex (pt := pt) hC.2.2.1
  have hip : hb_in pt := by constructor <;> omega
  have h200 := hC.2.2.2.2.1
  have hF := bk_jx_F hC
  have hG25 : G 25 4 = xs.length := hC.2.2.2.2.2.2.2.1
  -- the run from a state at a0
  have go : ∀ (G0 : hb_G) (a0 c : List Nat), bk_kq G G0 → hb_rg G0 → hb_bn G0 → a = a0 ++ c → bk_SD D G0 a0.reverse → G0 32 10 = a0.length → ∃ SS : Nat → hb_G, SS 0 = G0 ∧ (∀ j, j ≤ c.length → SS j 32 10 = ((a0.length : Nat) : Int) + j) ∧ (∀ j, j ≤ c.length → hb_rg (SS j)) ∧ (∀ j, j ≤ c.length → SS j 25 4 = G 25 4) ∧ ((a0.length : Nat) : Int) + c.length ≤ G 25 4 ∧ (∀ j, j < c.length → SS j (77 + bk_jx xs ob (((a0.length : Nat) : Int) + j)) 2 ≤ pt) ∧ (((a0.length : Nat) : Int) + c.length = G 25 4 ∨ (((a0.length : Nat) : Int) + c.length < G 25 4 ∧ pt < SS c.length (77 + bk_jx xs ob (((a0.length : Nat) : Int) + c.length)) 2)) ∧ (∀ j, j < c.length → ∃ H9 : hb_G, hb_M l yX4_happen cX4_happen 2 none 3 0 0 [hb_r 32, hb_r (77 + bk_jx xs ob (((a0.length : Nat) : Int) + j))] (hb_w (SS j) F na) (77 + na) (.inl none) (hb_w H9 F na) (77 + na) ∧ SS (j + 1) = hb_u2 H9 32 10 (H9 32 10 + 1)) ∧ bk_SD D (SS c.length) a.reverse ∧ bk_kq G (SS c.length) ∧ hb_bn (SS c.length) := by
    intro G0 a0 c k0 g0 b0 ha hS hn
    have hx2 : xs = a0 ++ c ++ b := by rw [hx, ha]
    have hC0 := hC.kq k0
    obtain ⟨SS, r0, r1, r2⟩ := bk_run (l := l) hC0 g0 b0 hx2 hS hn c.length (Nat.le_refl _)
    have hlen : xs.length = a0.length + c.length + b.length := by rw [hx2]; simp only [List.length_append]
    have hobj : ∀ j, j ≤ c.length → ∀ i e : Nat, xs[i]? = some e → SS j (77 + bk_jx xs ob (i : Int)) 2 = D 66 e := by
      intro j hj i e hi
      rw [bk_jx_e hi, (r2 j hj).2.1 _ (by omega)]
      exact (hC0.2.2.2.2.2.2.2.2.1 e (List.mem_of_getElem? hi)).2.2.2.1
    refine ⟨SS, r0, fun j hj => (r2 j hj).2.2.2.2.1, fun j hj => (r2 j hj).2.2.1, fun j hj => ?_, by rw [hG25]; omega, fun j hj => ?_, ?_, fun j hj => ?_, ?_, k0.tr (r2 _ (Nat.le_refl _)).2.1, (r2 _ (Nat.le_refl _)).2.2.2.1⟩
    · rw [(k0.tr (r2 j hj).2.1) 25 (by omega)]
    · obtain ⟨e, H9, q1, -, -⟩ := r1 j hj
      have h1 := hobj j (by omega) (a0.length + j) e q1
      rw [show ((a0.length + j : Nat) : Int) = ((a0.length : Nat) : Int) + j by omega] at h1
      rw [h1]
      refine hp.1 e ?_
      rw [hx2, List.getElem?_append_left (by simp; omega), ← ha] at q1
      exact List.mem_of_getElem? q1
    · by_cases hb0 : b.length = 0
      · exact Or.inl (by rw [hG25]; omega)
      · refine Or.inr ⟨by rw [hG25]; omega, ?_⟩
        have hget : xs[a0.length + c.length]? = some b[0] := by
          rw [hx2, List.getElem?_append_right (by simp)]
          simp
        have h1 := hobj c.length (Nat.le_refl _) (a0.length + c.length) b[0] hget
        rw [show ((a0.length + c.length : Nat) : Int) = ((a0.length : Nat) : Int) + c.length by omega] at h1
        rw [h1]
        exact hp.2 _ (List.getElem_mem _)
    · obtain ⟨e, H9, q1, q2, q3⟩ := r1 j hj
      refine ⟨H9, ?_, q3⟩
      have h2 := bk_jx_e (ob := ob) q1
      rw [show ((a0.length + j : Nat) : Int) = ((a0.length : Nat) : Int) + j by omega] at h2
      rw [h2]; exact q2
    · have := (r2 _ (Nat.le_refl _)).1
      rw [List.take_length, ← ha] at this
      exact this
  have alen : ∀ (a0 c : List Nat), a = a0 ++ c → ((a0.length : Nat) : Int) + c.length = a.length := fun a0 c h => by rw [h, List.length_append]; omega
  by_cases hcase : G 32 9 ≠ -1 ∧ G 32 9 ≤ pt
  · rcases hsh with h9 | ⟨h9, a0, b0, hx0, hp0, hn0, hS0⟩
    · exact absurd h9 hcase.1
    · obtain ⟨c, hc⟩ := bk_pf_mono hcase.2 (hx0.symm.trans hx) hp0 hp
      obtain ⟨SS, t0, t1, t2, t3, t4, t5, t6, t7, t8, t9, t10⟩ := go G a0 c bk_kq.rf hG hbn hc hS0 hn0
      refine ⟨_, a, b, hx, hp, c_showOn (jx := bk_jx xs ob) hip t1 t2 t3 t4 (by rw [hG25]; omega) hF t5 t6 t7 hcase t0.symm hG, bk_SD_32 t8, t9.tr bk_kq_32, (t2 _ (Nat.le_refl _)).u2 hip, bk_bn_32 t10, hb_u2_s, ?_⟩
      rw [hb_u2_i (by decide), t1 _ (Nat.le_refl _)]
      exact alen a0 c hc
  · obtain ⟨e1, e2, e3, e4, e5, e6⟩ := bk_begin hC.1 hC.2.1 hG hbn
    obtain ⟨SS, t0, t1, t2, t3, t4, t5, t6, t7, t8, t9, t10⟩ := go (hb_bg G 40) [] a e2 e3 e4 rfl e1 e5
    obtain ⟨w1, w2⟩ := bk_bgby hC.1 hC.2.1 hG
    have hB := c_begin (l := l) (F := F) (na := na) w1 w2
    rw [← t0] at hB
    refine ⟨_, a, b, hx, hp, c_showNew (jx := bk_jx xs ob) (n0 := 0) (m := a.length) hip t1 t2 t3 t4 (by rw [hG25]; omega) hF t5 t6 t7 (by omega) hB hG, bk_SD_32 t8, t9.tr bk_kq_32, (t2 _ (Nat.le_refl _)).u2 hip, bk_bn_32 t10, hb_u2_s, ?_⟩
    rw [hb_u2_i (by decide), t1 _ (Nat.le_refl _)]
    exact alen [] a rfl
