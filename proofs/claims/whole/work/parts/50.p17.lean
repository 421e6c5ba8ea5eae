/-! recording the machines -/
theorem bk_mo_c {S T : hb_G} (h48 : T 48 = S 48) (h51 : T 51 = S 51) (h71 : T 71 = S 71) {t : Int} : hb_mo T t = hb_mo S t := by
  unfold hb_mo hb_jm hb_js
  rw [h48, h51, h71]
theorem bk_mo_r {S : hb_G} (hp : hb_tr (S 71)) {t : Int} (ht : 0 ≤ t ∧ t < 40) : -1 ≤ hb_mo S t ∧ hb_mo S t < 40 := by
  have := bk_tp_r hp (n := 4) ht
  unfold hb_mo
  split
  · omega
  · split <;> omega
theorem bk_r1 {S : hb_G} {e : Nat} (hp : hb_tr (S 71)) (hS : hb_rg S) : ∀ n : Nat, n ≤ 40 → hb_rg (hb_r1 S e n) ∧ (∀ p : Nat, p ≠ 73 → hb_r1 S e n p = S p) ∧ ∀ i : Int, hb_r1 S e n 73 i = if 40 * (e : Int) ≤ i ∧ i < 40 * e + n then hb_mo S (i - 40 * e) else S 73 i
  | 0, _ => ⟨hS, fun p _ => rfl, fun i => by rw [if_neg (by omega)]; rfl⟩
  | n + 1, hn => by
    obtain ⟨h1, h2, h3⟩ := bk_r1 (e := e) hp hS n (by omega)
    have hmo : hb_mo (hb_r1 S e n) n = hb_mo S n := bk_mo_c (h2 48 (by decide)) (h2 51 (by decide)) (h2 71 (by decide))
    have hr := bk_mo_r hp (t := n) (by omega)
    unfold hb_r1
    rw [hmo]
    refine ⟨h1.u2 (by constructor <;> omega), fun p hp9 => by rw [hb_u2_n hp9]; exact h2 p hp9, fun i => ?_⟩
    by_cases ei : i = 40 * (e : Int) + n
    · subst ei
      rw [hb_u2_s, if_pos (by omega)]
      congr 1; omega
    · rw [hb_u2_i ei, h3 i]
      by_cases e5 : 40 * (e : Int) ≤ i ∧ i < 40 * e + n
      · rw [if_pos e5, if_pos (by omega)]
      · rw [if_neg e5, if_neg (by omega)]
theorem bk_r2 {S : hb_G} {a b : Int} (hp : hb_tr (S 71)) (hS : hb_rg S) : ∀ n : Nat, hb_rg (hb_r2 S a b n) ∧ (∀ p : Nat, p ≠ 73 → hb_r2 S a b n p = S p) ∧ ∀ (e : Nat) (t : Int), 0 ≤ t ∧ t < 40 → hb_r2 S a b n 73 (40 * e + t) = @ite Int (e < n ∧ hb_rq S e a b) (Classical.propDecidable _) (hb_mo S t) (S 73 (40 * e + t))
  | 0 => ⟨hS, fun p _ => rfl, fun e t ht => by rw [if_neg (fun h => by omega)]; rfl⟩
  | n + 1 => by
    obtain ⟨h1, h2, h3⟩ := bk_r2 (a := a) (b := b) hp hS n
    have hq : hb_rq (hb_r2 S a b n) n a b ↔ hb_rq S n a b := by
      unfold hb_rq
      rw [h2 64 (by decide), h2 63 (by decide), h2 66 (by decide)]
    unfold hb_r2
    by_cases e5 : hb_rq (hb_r2 S a b n) n a b
    · rw [if_pos e5]
      obtain ⟨g1, g2, g3⟩ := bk_r1 (S := hb_r2 S a b n) (e := n) (by rw [h2 71 (by decide)]; exact hp) h1 40 (Nat.le_refl _)
      refine ⟨g1, fun p hp9 => (g2 p hp9).trans (h2 p hp9), fun e t ht => ?_⟩
      rw [g3]
      by_cases en : e = n
      · subst en
        rw [if_pos (by omega), if_pos ⟨by omega, hq.mp e5⟩, show (40 * (e : Int) + t - 40 * e) = t by omega]
        exact bk_mo_c (h2 48 (by decide)) (h2 51 (by decide)) (h2 71 (by decide))
      · rw [if_neg (by omega), h3 e t ht]
        by_cases e6 : e < n ∧ hb_rq S e a b
        · rw [if_pos e6, if_pos ⟨by omega, e6.2⟩]
        · rw [if_neg e6, if_neg (fun h => e6 ⟨by omega, h.2⟩)]
    · rw [if_neg e5]
      refine ⟨h1, h2, fun e t ht => ?_⟩
      rw [h3 e t ht]
      by_cases e6 : e < n ∧ hb_rq S e a b
      · rw [if_pos e6, if_pos ⟨by omega, e6.2⟩]
      · rw [if_neg e6, if_neg (fun h => by
          by_cases en : e = n
          · subst en; exact e5 (hq.mpr h.2)
          · exact e6 ⟨by omega, h.2⟩)]
/-- a flight's row says where it counts -/
def bk_rec (D S : hb_G) (e : Nat) (r : List Nat) : Prop := ∀ t, 0 ≤ t ∧ t < 40 → (S 73 (40 * e + t) = D 65 e ↔ hb_tp (bk_TR D r).1 4 t = D 65 e)
def bk_kc (G H : hb_G) : Prop := ∀ p : Nat, p ≠ 71 → p ≠ 72 → p ≠ 73 → H p = G p
theorem bk_kc.tr {G H K : hb_G} (h1 : bk_kc G H) (h2 : bk_kc H K) : bk_kc G K := fun p a b c => (h2 p a b c).trans (h1 p a b c)
theorem bk_kt.kc {G H : hb_G} (h : bk_kt G H) : bk_kc G H := fun p a b _ => h p a b
theorem bk_rw.kc {D G H : hb_G} (h : bk_rw D G) (hk : bk_kc G H) : bk_rw D H := fun p hp => (hk p (by omega) (by omega) (by omega)).trans (h p hp)
theorem bk_mo_rec {D S : hb_G} {r : List Nat} {e : Nat} (hrw : bk_rw D S) (hq : bk_tq D S r) (hv : ∀ f ∈ r, bk_vd D f) (hl : bk_LG D r) (hve : bk_vd D e) (e0 : D 63 e = 0) {t : Int} (ht : 0 ≤ t ∧ t < 40) : hb_mo S t = D 65 e ↔ hb_tp (bk_TR D r).1 4 t = D 65 e := by
  obtain ⟨q1, q2, hTI⟩ := bk_tq_TI hrw hq hv hl
  have hm := (hve.2.2.2.2.1 e0).1
  have hTR := (bk_TR_TI hv hl).1
  have htp : hb_tp (S 71) 4 t = hb_tp (bk_TR D r).1 4 t := bk_tp_c q1 hTR ht
  have hjm : hb_jm S (D 65 e) := by
    unfold hb_jm hb_js
    rw [hrw 51 (by omega), hrw 48 (by omega)]
    exact hm
  unfold hb_mo
  by_cases e1 : S 51 t = -1
  · rw [if_pos e1]
    constructor
    · intro h; have := hve.2.2.1.1; omega
    · intro h
      exfalso
      have h3 : S 71 t = -1 := Classical.byContradiction fun h9 => (hTI.2.2.1 t ht h9).2 e1
      have h4 : hb_tp (S 71) 4 t = t := by unfold hb_tp; rw [if_pos h3]
      rw [← htp, h4] at h
      rw [h, hrw 51 (by omega)] at e1
      exact hve.2.2.1.2 e1
  · rw [if_neg e1, htp]
    constructor
    · intro h
      split at h
      · exact h
      · have := hve.2.2.1.1; omega
    · intro h
      rw [h, if_pos hjm]
theorem bk_record {l : Launch} {D S : hb_G} {F : hb_F} {na n : Nat} {r : List Nat} {a b : Int} (hrw : bk_rw D S) (hq : bk_tq D S r) (hv : ∀ f ∈ r, bk_vd D f) (hl : bk_LG D r) (hS : hb_rg S) (hn : n ≤ 200) (hn2 : S 47 17 = n) (ha : hb_in a) (hb : hb_in b) (hvd : ∀ e : Nat, e < n → bk_vd D e) : ∃ H, hb_M l yX9_record cX9_record 5 none 4 0 0 [hb_r 47, hb_i a, hb_i b] (hb_w S F na) (77 + na) (.inl none) (hb_w H F na) (77 + na) ∧ hb_rg H ∧ (∀ p : Nat, p ≠ 73 → H p = S p) ∧ (∀ e : Nat, e < n → D 64 e ≠ 0 → D 63 e = 0 → a ≤ D 66 e → D 66 e < b → bk_rec D H e r) ∧ (∀ e : Nat, ¬ (a ≤ D 66 e ∧ D 66 e < b) → ∀ t, 0 ≤ t ∧ t < 40 → H 73 (40 * e + t) = S 73 (40 * e + t)) := by
  obtain ⟨q1, q2, hTI⟩ := bk_tq_TI hrw hq hv hl
  have h2 := bk_r2 (a := a) (b := b) hTI.1 hS
  have hmq : ∀ T : hb_G, hb_rg T → T 71 = S 71 → hb_mq T := fun T h1 h9 => ⟨h1, by rw [h9]; exact hTI.1, by rw [h9]; exact hTI.2.1⟩
  have hM := c_mRecord (l := l) (F := F) (na := na) (G := S) (a := a) (b := b) (n := n) ha hb hn (fun e he => by rw [(h2 e).2.1 47 (by decide)]; exact hn2) (fun e he => hmq _ (h2 e).1 ((h2 e).2.1 71 (by decide)))
    (fun e t he ht => by
      have h3 := bk_r1 (S := hb_r2 S a b e) (e := e) (by rw [(h2 e).2.1 71 (by decide)]; exact hTI.1) (h2 e).1 t ht
      exact hmq _ h3.1 ((h3.2.1 71 (by decide)).trans ((h2 e).2.1 71 (by decide))))
  refine ⟨_, hM, (h2 n).1, (h2 n).2.1, fun e he h64 h63 h1 h3 t ht => ?_, fun e hne t ht => ?_⟩
  · rw [(h2 n).2.2 e t ht, if_pos ⟨he, by unfold hb_rq; rw [hrw 64 (by omega), hrw 63 (by omega), hrw 66 (by omega)]; exact ⟨h64, h63, h1, h3⟩⟩]
    exact bk_mo_rec hrw hq hv hl (hvd e he) h63 ht
  · rw [(h2 n).2.2 e t ht, if_neg (fun h => hne (by
      have := h.2
      unfold hb_rq at this
      rw [hrw 66 (by omega)] at this
      exact this.2.2))]
/-- the points between which is recorded -/
def bk_pq (D : hb_G) (c : List Nat) (j : Nat) : Int := match j with
  | 0 => 0
  | j + 1 => D 66 (c.getD j 0 : Nat)
theorem bk_pq_s {D : hb_G} {c : List Nat} {j e : Nat} (h : c[j]? = some e) : bk_pq D c (j + 1) = D 66 e := by
  show D 66 ((c.getD j 0 : Nat) : Int) = D 66 e
  rw [List.getD_eq_getElem?_getD, h]
  rfl
/-- flights recorded up to the j-th move -/
def bk_rcd (D S : hb_G) (n : Nat) (c : List Nat) (q : Int) : Prop := ∀ e : Nat, e < n → D 64 e ≠ 0 → D 63 e = 0 → D 66 e < q → ∀ c1 c2 : List Nat, c = c1 ++ c2 → bk_pf D (D 66 e) c1 c2 → bk_rec D S e c1.reverse
theorem bk_lt_pf {D : hb_G} {c : List Nat} (h : c.Pairwise (bk_lt D)) {j : Nat} {q : Int} (hj : j ≤ c.length) (h1 : bk_pq D c j ≤ q) (h0 : 0 ≤ q) (h2 : ∀ e, c[j]? = some e → q < D 66 e) : bk_pf D q (c.take j) (c.drop j) := by
  have hc : c.take j ++ c.drop j = c := List.take_append_drop _ _
  have hp := h
  rw [← hc] at hp
  have hpa := List.pairwise_append.mp hp
  constructor
  · intro f hf
    cases j with
    | zero => simp at hf
    | succ j =>
      have hjl : j < c.length := by omega
      have hg := List.getElem?_eq_getElem hjl
      rw [bk_pq_s hg] at h1
      rw [List.take_succ_eq_append_getElem hjl] at hf
      rcases List.mem_append.mp hf with h3 | h3
      · have h4 : c = c.take j ++ c[j] :: c.drop (j + 1) := by rw [← List.drop_eq_getElem_cons hjl, List.take_append_drop]
        rw [h4] at h
        have h5 := (List.pairwise_append.mp h).2.2 f h3 c[j] List.mem_cons_self
        unfold bk_lt at h5
        omega
      · rw [List.mem_singleton.mp h3]; exact h1
  · intro f hf
    by_cases hjl : j < c.length
    · have hg := List.getElem?_eq_getElem hjl
      have h3 := h2 _ hg
      rw [List.drop_eq_getElem_cons hjl] at hf hpa
      rcases List.mem_cons.mp hf with h4 | h4
      · rw [h4]; exact h3
      · have h5 := (List.pairwise_cons.mp hpa.2.1).1 f h4
        unfold bk_lt at h5
        omega
    · rw [List.drop_eq_nil_of_le (by omega)] at hf; exact nomatch hf
/-! the reference's check -/
theorem bk_crun {l : Launch} {D G : hb_G} {F : hb_F} {na n : Nat} (hs : bk_sb D) (hrw : bk_rw D G) (hG : hb_rg G) (hn : n ≤ 200) (hn2 : G 47 17 = n) (hvd : ∀ e : Nat, e < n → bk_vd D e) {c : List Nat} (hc : c.Pairwise (bk_lt D)) (hm : ∀ e, e ∈ c ↔ e < n ∧ D 64 e ≠ 0 ∧ (D 63 e = 1 ∨ D 63 e = 2)) : ∀ m : Nat, m ≤ c.length → bk_LG D (c.take m).reverse → ∃ SS RR : Nat → hb_G, SS 0 = bk_no G ∧
    (∀ j e : Nat, j < m → c[j]? = some e → hb_M l yX9_move cX9_move 6 (some .boolean) 2 0 0 [hb_r 47, hb_i e] (hb_w (RR j) F na) (77 + na) (.inl (some (hb_i 1))) (hb_w (SS (j + 1)) F na) (77 + na)) ∧
    (∀ j : Nat, j < c.length → j ≤ m → hb_M l yX9_record cX9_record 5 none 4 0 0 [hb_r 47, hb_i (bk_pq D c j), hb_i (bk_pq D c (j + 1))] (hb_w (SS j) F na) (77 + na) (.inl none) (hb_w (RR j) F na) (77 + na) ∧ bk_kc G (RR j) ∧ bk_tq D (RR j) (c.take j).reverse ∧ hb_rg (RR j)) ∧
    ∀ j, j ≤ m → bk_tq D (SS j) (c.take j).reverse ∧ bk_kc G (SS j) ∧ hb_rg (SS j) ∧ bk_rcd D (SS j) n c (bk_pq D c j) := by
  have hei : ∀ e : Nat, e < n → hb_in (D 66 e) := fun e he => by have := (hvd e he).2.2.2.1; constructor <;> omega
  have hpqi : ∀ j, j ≤ c.length → hb_in (bk_pq D c j) := fun j hj => by
    cases j with
    | zero => show hb_in 0; decide
    | succ j =>
      have hg := List.getElem?_eq_getElem (show j < c.length by omega)
      rw [bk_pq_s hg]
      exact hei _ ((hm _).mp (List.getElem_mem _)).1
  have hpq0 : ∀ j, j ≤ c.length → 0 ≤ bk_pq D c j := fun j hj => by
    cases j with
    | zero => exact Int.le_refl _
    | succ j =>
      have hg := List.getElem?_eq_getElem (show j < c.length by omega)
      rw [bk_pq_s hg]
      exact (hvd _ ((hm _).mp (List.getElem_mem _)).1).2.2.2.1.1
  have hcv : ∀ f ∈ c, bk_vd D f := fun f hf => hvd f ((hm f).mp hf).1
  have htv : ∀ j, ∀ f ∈ (c.take j).reverse, bk_vd D f := fun j f hf => hcv f (List.mem_of_mem_take (List.mem_reverse.mp hf))
  -- a record at the j-th place
  have rcj : ∀ (j : Nat) (S : hb_G), j < c.length → bk_LG D (c.take j).reverse → bk_tq D S (c.take j).reverse → bk_kc G S → hb_rg S → bk_rcd D S n c (bk_pq D c j) → ∃ R, hb_M l yX9_record cX9_record 5 none 4 0 0 [hb_r 47, hb_i (bk_pq D c j), hb_i (bk_pq D c (j + 1))] (hb_w S F na) (77 + na) (.inl none) (hb_w R F na) (77 + na) ∧ bk_kc G R ∧ bk_tq D R (c.take j).reverse ∧ hb_rg R ∧ bk_rcd D R n c (bk_pq D c (j + 1)) := by
    intro j S hj hL hq hk hR hrc
    obtain ⟨R, r1, r2, r3, r4, r5⟩ := bk_record (l := l) (F := F) (na := na) (n := n) (hrw.kc hk) hq (htv j) hL hR hn (by rw [hk 47 (by decide) (by decide) (by decide)]; exact hn2) (hpqi j (by omega)) (hpqi (j + 1) (by omega)) hvd
    refine ⟨R, r1, fun p a1 a2 a3 => (r3 p a3).trans (hk p a1 a2 a3), fun t ht => by rw [r3 71 (by decide), r3 72 (by decide)]; exact hq t ht, r2, fun e he h64 h63 hlt c1 c2 hcc hpf => ?_⟩
    by_cases hlo : bk_pq D c j ≤ D 66 e
    · have hpf2 : bk_pf D (D 66 e) (c.take j) (c.drop j) := bk_lt_pf hc (by omega) hlo (hvd e he).2.2.2.1.1 (fun x hx => by rw [← bk_pq_s (D := D) hx]; exact hlt)
      have := (bk_pf_un (hcc.symm.trans (List.take_append_drop j c).symm) hpf hpf2).1
      rw [this]
      exact r4 e he h64 h63 hlo hlt
    · intro t ht
      rw [r5 e (fun h => hlo h.1) t ht]
      exact hrc e he h64 h63 (by omega) c1 c2 hcc hpf t ht
  intro m
  induction m with
  | zero =>
    intro _ hL0
    have z : bk_tq D (bk_no G) (c.take 0).reverse ∧ bk_kc G (bk_no G) ∧ hb_rg (bk_no G) ∧ bk_rcd D (bk_no G) n c (bk_pq D c 0) := ⟨by simpa using bk_no_tq, bk_no_kt.kc, bk_no_rg hG, fun e he _ _ hlt => absurd hlt (by show ¬ D 66 e < 0; have := (hvd e he).2.2.2.1; omega)⟩
    by_cases hc0 : 0 < c.length
    · obtain ⟨R, q1, q2, q3, q4, q5⟩ := rcj 0 (bk_no G) hc0 hL0 z.1 z.2.1 z.2.2.1 z.2.2.2
      refine ⟨fun _ => bk_no G, fun _ => R, rfl, fun j e h => absurd h (Nat.not_lt_zero _), fun j hj hj2 => ?_, fun j hj => ?_⟩
      · have : j = 0 := by omega
        subst this; exact ⟨q1, q2, q3, q4⟩
      · have : j = 0 := by omega
        subst this; exact z
    · refine ⟨fun _ => bk_no G, fun _ => bk_no G, rfl, fun j e h => absurd h (Nat.not_lt_zero _), fun j hj hj2 => by omega, fun j hj => ?_⟩
      have : j = 0 := by omega
      subst this; exact z
  | succ m ih =>
    intro hmc hL
    have hm1 : m < c.length := by omega
    have hrv : (c.take (m + 1)).reverse = c[m] :: (c.take m).reverse := by
      rw [List.take_succ_eq_append_getElem hm1, List.reverse_append]; rfl
    have hL9 := hL
    rw [hrv] at hL9
    obtain ⟨SS, RR, h0, h1, h2, h3⟩ := ih (by omega) hL9.2
    obtain ⟨g1, g2, g3, g4⟩ := h2 m hm1 (Nat.le_refl _)
    have hmem := (hm c[m]).mp (List.getElem_mem hm1)
    -- the record once more, for what it says of the flights
    obtain ⟨s1, s2, s3, s4⟩ := h3 m (Nat.le_refl _)
    obtain ⟨R, q1, q2, q3, q4, q5⟩ := rcj m (SS m) hm1 hL9.2 s1 s2 s3 s4
    obtain ⟨H, hM, hk, hq, hR⟩ := (bk_mov (l := l) (F := F) (na := na) hs (hrw.kc q2) (hvd _ hmem.1) (by omega) hmem.2.2 (htv m) hL9.2 q3 q4).1 hL9.1
    have hH : bk_tq D H (c.take (m + 1)).reverse ∧ bk_kc G H ∧ hb_rg H ∧ bk_rcd D H n c (bk_pq D c (m + 1)) := by
      refine ⟨by rw [hrv]; exact hq, q2.tr hk.kc, hR, fun e he h64 h63 hlt c1 c2 hcc hpf t ht => ?_⟩
      rw [hk 73 (by decide) (by decide)]
      exact q5 e he h64 h63 hlt c1 c2 hcc hpf t ht
    have fin : ∀ R2 : hb_G, (m + 1 < c.length → hb_M l yX9_record cX9_record 5 none 4 0 0 [hb_r 47, hb_i (bk_pq D c (m + 1)), hb_i (bk_pq D c (m + 1 + 1))] (hb_w H F na) (77 + na) (.inl none) (hb_w R2 F na) (77 + na) ∧ bk_kc G R2 ∧ bk_tq D R2 (c.take (m + 1)).reverse ∧ hb_rg R2) → ∃ SS RR : Nat → hb_G, SS 0 = bk_no G ∧
        (∀ j e : Nat, j < m + 1 → c[j]? = some e → hb_M l yX9_move cX9_move 6 (some .boolean) 2 0 0 [hb_r 47, hb_i e] (hb_w (RR j) F na) (77 + na) (.inl (some (hb_i 1))) (hb_w (SS (j + 1)) F na) (77 + na)) ∧
        (∀ j : Nat, j < c.length → j ≤ m + 1 → hb_M l yX9_record cX9_record 5 none 4 0 0 [hb_r 47, hb_i (bk_pq D c j), hb_i (bk_pq D c (j + 1))] (hb_w (SS j) F na) (77 + na) (.inl none) (hb_w (RR j) F na) (77 + na) ∧ bk_kc G (RR j) ∧ bk_tq D (RR j) (c.take j).reverse ∧ hb_rg (RR j)) ∧
        ∀ j, j ≤ m + 1 → bk_tq D (SS j) (c.take j).reverse ∧ bk_kc G (SS j) ∧ hb_rg (SS j) ∧ bk_rcd D (SS j) n c (bk_pq D c j) := by
      intro R2 hR2
      let S9 : Nat → hb_G := fun j => if j ≤ m then SS j else H
      let R9 : Nat → hb_G := fun j => if j < m then RR j else if j = m then R else R2
      have a1 : ∀ j, j ≤ m → S9 j = SS j := fun j h => if_pos h
      have a2 : S9 (m + 1) = H := if_neg (by omega)
      have b1 : ∀ j, j < m → R9 j = RR j := fun j h => if_pos h
      have b2 : R9 m = R := by show (if m < m then RR m else if m = m then R else R2) = R; rw [if_neg (by omega), if_pos rfl]
      have b3 : R9 (m + 1) = R2 := by show (if m + 1 < m then RR (m + 1) else if m + 1 = m then R else R2) = R2; rw [if_neg (by omega), if_neg (by omega)]
      refine ⟨S9, R9, (a1 0 (Nat.zero_le _)).trans h0, fun j e hj hcj => ?_, fun j hj hj2 => ?_, fun j hj => ?_⟩
      · rcases Nat.lt_or_ge j m with h9 | h9
        · rw [b1 j h9, a1 (j + 1) h9]; exact h1 j e h9 hcj
        · have : j = m := by omega
          subst this
          rw [b2, a2]
          rw [List.getElem?_eq_getElem hm1] at hcj
          cases hcj
          exact hM
      · rcases Nat.lt_or_ge j m with h9 | h9
        · rw [b1 j h9, a1 j (by omega)]; exact h2 j hj (by omega)
        · by_cases h8 : j = m
          · subst h8; rw [b2, a1 j (Nat.le_refl _)]; exact ⟨q1, q2, q3, q4⟩
          · have : j = m + 1 := by omega
            subst this
            rw [b3, a2]; exact hR2 hj
      · rcases Nat.lt_or_ge m j with h9 | h9
        · have : j = m + 1 := by omega
          subst this
          rw [a2]; exact hH
        · rw [a1 j h9]; exact h3 j h9
    by_cases hm2 : m + 1 < c.length
    · obtain ⟨R2, p1, p2, p3, p4, -⟩ := rcj (m + 1) H hm2 hL hH.1 hH.2.1 hH.2.2.1 hH.2.2.2
      exact fin R2 (fun _ => ⟨p1, p2, p3, p4⟩)
    · exact fin H (fun h => absurd h hm2)
/-- the longest lawful beginning -/
theorem bk_LG_ex {D : hb_G} (c : List Nat) : bk_LG D c.reverse ∨ ∃ m e, c[m]? = some e ∧ bk_LG D (c.take m).reverse ∧ ¬ bk_ok D (bk_TR D (c.take m).reverse) e := by
  have : ∀ m, m ≤ c.length → bk_LG D (c.take m).reverse ∨ ∃ m e, c[m]? = some e ∧ bk_LG D (c.take m).reverse ∧ ¬ bk_ok D (bk_TR D (c.take m).reverse) e := by
    intro m
    induction m with
    | zero => intro _; exact Or.inl (by simp [bk_LG])
    | succ m ih =>
      intro hm
      rcases ih (by omega) with h | h
      · have hm1 : m < c.length := by omega
        have hrv : (c.take (m + 1)).reverse = c[m] :: (c.take m).reverse := by
          rw [List.take_succ_eq_append_getElem hm1, List.reverse_append]; rfl
        by_cases hok : bk_ok D (bk_TR D (c.take m).reverse) c[m]
        · exact Or.inl (by rw [hrv]; exact ⟨hok, h⟩)
        · exact Or.inr ⟨m, c[m], List.getElem?_eq_getElem hm1, h, hok⟩
      · exact Or.inr h
  have h := this c.length (Nat.le_refl _)
  rw [List.take_length] at h
  exact h
def bk_kk (G H : hb_G) : Prop := (∀ p : Nat, p ≠ 70 → p ≠ 71 → p ≠ 72 → p ≠ 73 → p ≠ 47 → H p = G p) ∧ ∀ i : Int, i ≠ 26 → H 47 i = G 47 i
theorem bk_kk_of {G H K : hb_G} (h1 : bk_ks G H) (h2 : bk_kc H K) : bk_kk G K := ⟨fun p a b c d e => (h2 p b c d).trans (h1.1 p a e), fun i hi => by rw [h2 47 (by decide) (by decide) (by decide)]; exact h1.2 i hi⟩
theorem bk_check {l : Launch} {D G : hb_G} {F : hb_F} {na n : Nat} (hs : bk_sb D) (hrw : bk_rw D G) (hG : hb_rg G) (hn : n ≤ 200) (hn2 : G 47 17 = n) (hvd : ∀ e : Nat, e < n → bk_vd D e) {c : List Nat} (hc : c.Pairwise (bk_lt D)) (hm : ∀ e, e ∈ c ↔ e < n ∧ D 64 e ≠ 0 ∧ (D 63 e = 1 ∨ D 63 e = 2)) :
    (bk_LG D c.reverse → ∃ H, hb_M l yX9_check cX9_check 3 (some .boolean) 5 0 0 [hb_r 47] (hb_w G F na) (77 + na) (.inl (some (hb_i 1))) (hb_w H F na) (77 + na) ∧ bk_kk G H ∧ hb_rg H ∧ bk_row H c ∧ bk_rcd D H n c 3000100) ∧
    (¬ bk_LG D c.reverse → ∃ H, hb_M l yX9_check cX9_check 3 (some .boolean) 5 0 0 [hb_r 47] (hb_w G F na) (77 + na) (.inl (some (hb_i 0))) (hb_w H F na) (77 + na) ∧ bk_kk G H ∧ hb_rg H) := by
  obtain ⟨G1, hS, g1, g2, g3⟩ := bk_sort (l := l) (F := F) (na := na) hrw hn hn2 hG hc hm
  have hrw1 : bk_rw D G1 := fun p hp => (g2.1 p (by omega) (by omega)).trans (hrw p hp)
  have hn1 : G1 47 17 = n := (g2.2 17 (by decide)).trans hn2
  have hcl : c.length ≤ 200 := Nat.le_trans (bk_nd_len (bk_lt_nd hc) (fun x hx => ((hm x).mp hx).1)) hn
  let mv : Nat → Int := fun j => (c.getD j 0 : Nat)
  have hmv : ∀ j e : Nat, c[j]? = some e → mv j = e := fun j e h => by
    show ((c.getD j 0 : Nat) : Int) = e
    rw [List.getD_eq_getElem?_getD, h]; rfl
  have hrows : ∀ (S : hb_G) (j : Nat), bk_kc G1 S → j < c.length → S 70 j = mv j ∧ (0 ≤ mv j ∧ mv j < 201) ∧ S 66 (mv j) = bk_pq D c (j + 1) := fun S j hk hj => by
    have hg := List.getElem?_eq_getElem hj
    have hx := ((hm _).mp (List.getElem_mem hj)).1
    rw [hmv j _ hg, hk 70 (by decide) (by decide) (by decide), g3.2 j _ hg, (hrw1.kc hk) 66 (by omega), bk_pq_s hg]
    exact ⟨rfl, by omega, rfl⟩
  constructor
  · intro hL
    obtain ⟨SS, RR, h0, h1, h2, h3⟩ := bk_crun (l := l) (F := F) (na := na) hs hrw1 g1 hn hn1 hvd hc hm c.length (Nat.le_refl _) (by rw [List.take_length]; exact hL)
    obtain ⟨s1, s2, s3, s4⟩ := h3 c.length (Nat.le_refl _)
    have hpqn : hb_in (bk_pq D c c.length) := by
      cases hcl0 : c.length with
      | zero => show hb_in 0; decide
      | succ j =>
        have hg := List.getElem?_eq_getElem (show j < c.length by omega)
        rw [bk_pq_s hg]
        have := (hvd _ ((hm _).mp (List.getElem_mem (show j < c.length by omega))).1).2.2.2.1
        constructor <;> omega
    obtain ⟨H, r1, r2, r3, r4, r5⟩ := bk_record (l := l) (F := F) (na := na) (n := n) (a := bk_pq D c c.length) (b := 3000100) (hrw1.kc s2) s1 (fun f hf => hvd f ((hm f).mp (List.mem_of_mem_take (List.mem_reverse.mp hf))).1) (by rw [List.take_length]; exact hL) s3 hn (by rw [s2 47 (by decide) (by decide) (by decide)]; exact hn1) hpqn (by decide) hvd
    have hkH : bk_kc G1 H := fun p a1 a2 a3 => (r3 p a3).trans (s2 p a1 a2 a3)
    have hC := c_mCheckY (l := l) (F := F) (na := na) (G := G) (SS := SS) (RR := RR) (mv := mv) (pq := bk_pq D c) (n := c.length) hcl hS h0.symm rfl
      (fun j hj => ⟨by rw [(h3 j hj).2.1 47 (by decide) (by decide) (by decide)]; exact g3.1, fun hj2 => by
        have w1 := hrows (SS j) j (h3 j hj).2.1 hj2
        have w2 := hrows (RR j) j (h2 j hj2 hj).2.1 hj2
        exact ⟨⟨w1.1, w1.2.1⟩, w1.2.2, w2.1, w2.2.2⟩⟩)
      (fun j hj => (h2 j hj (by omega)).1) (fun j hj => by rw [hmv j _ (List.getElem?_eq_getElem hj)]; exact h1 j _ hj (List.getElem?_eq_getElem hj)) r1
    refine ⟨H, hC, bk_kk_of g2 hkH, r2, ⟨by rw [hkH 47 (by decide) (by decide) (by decide)]; exact g3.1, fun j e he => by rw [hkH 70 (by decide) (by decide) (by decide)]; exact g3.2 j e he⟩, fun e he h64 h63 hlt c1 c2 hcc hpf => ?_⟩
    by_cases hlo : bk_pq D c c.length ≤ D 66 e
    · have hpf2 : bk_pf D (D 66 e) (c.take c.length) (c.drop c.length) := bk_lt_pf hc (Nat.le_refl _) hlo (hvd e he).2.2.2.1.1 (fun x hx => by rw [List.getElem?_eq_none (Nat.le_refl _)] at hx; cases hx)
      have := (bk_pf_un (hcc.symm.trans (List.take_append_drop c.length c).symm) hpf hpf2).1
      rw [this]
      exact r4 e he h64 h63 hlo hlt
    · intro t ht
      rw [r5 e (fun h => hlo h.1) t ht]
      exact s4 e he h64 h63 (by omega) c1 c2 hcc hpf t ht
  · intro hL
    rcases bk_LG_ex (D := D) c with h | ⟨m, e, he, hLm, hno⟩
    · exact absurd h hL
    · have hml := (List.getElem?_eq_some_iff.mp he).1
      obtain ⟨SS, RR, h0, h1, h2, h3⟩ := bk_crun (l := l) (F := F) (na := na) hs hrw1 g1 hn hn1 hvd hc hm m (by omega) hLm
      obtain ⟨q1, q2, q3, q4⟩ := h2 m hml (Nat.le_refl _)
      have hmem := (hm e).mp (List.mem_of_getElem? he)
      obtain ⟨H, hM, hk, hR⟩ := (bk_mov (l := l) (F := F) (na := na) hs (hrw1.kc q2) (hvd _ hmem.1) (by omega) hmem.2.2 (fun f hf => hvd f ((hm f).mp (List.mem_of_mem_take (List.mem_reverse.mp hf))).1) hLm q3 q4).2 hno
      have hC := c_mCheckN (l := l) (F := F) (na := na) (G := G) (SS := SS) (RR := RR) (mv := mv) (pq := bk_pq D c) (n := c.length) (m := m) hcl hS h0.symm rfl
        (fun j hj => ⟨by rw [(h3 j hj).2.1 47 (by decide) (by decide) (by decide)]; exact g3.1, fun hj2 => by
          have w1 := hrows (SS j) j (h3 j hj).2.1 hj2
          have w2 := hrows (RR j) j (h2 j hj2 hj).2.1 hj2
          exact ⟨⟨w1.1, w1.2.1⟩, w1.2.2, w2.1, w2.2.2⟩⟩)
        (fun j hj => (h2 j (by omega) hj).1) (fun j hj => by rw [hmv j _ (List.getElem?_eq_getElem (show j < c.length by omega))]; exact h1 j _ hj (List.getElem?_eq_getElem (by omega))) hml (by rw [hmv m e he]; exact hM)
      exact ⟨H, hC, bk_kk_of g2 (q2.tr hk.kc), hR⟩
