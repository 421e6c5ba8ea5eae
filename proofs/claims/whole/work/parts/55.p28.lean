/-! the same book, as far as its first n entries go -/
def bk_ag (D E : hb_G) (n : Nat) : Prop := (∀ p : Nat, 48 ≤ p ∧ p ≤ 62 → E p = D p) ∧ ∀ p : Nat, 63 ≤ p ∧ p ≤ 69 → ∀ e : Nat, e < n → E p e = D p e
theorem bk_ag.sy {D E : hb_G} {n : Nat} (h : bk_ag D E n) : bk_ag E D n := ⟨fun p hp => (h.1 p hp).symm, fun p hp e he => (h.2 p hp e he).symm⟩
theorem bk_ag.vd {D E : hb_G} {n : Nat} (h : bk_ag D E n) {e : Nat} (he : e < n) (hv : bk_vd D e) : bk_vd E e := by
  unfold bk_vd hb_jm hb_js at hv ⊢
  rw [h.2 63 (by omega) e he, h.2 64 (by omega) e he, h.2 65 (by omega) e he, h.2 66 (by omega) e he, h.2 67 (by omega) e he, h.2 68 (by omega) e he, h.2 69 (by omega) e he, h.1 51 (by omega), h.1 48 (by omega), h.1 55 (by omega)]
  exact hv
theorem bk_ag.st {D E : hb_G} {n : Nat} (h : bk_ag D E n) {e : Nat} (he : e < n) {p : bk_P} : bk_st E p e = bk_st D p e := by
  unfold bk_st
  rw [h.2 63 (by omega) e he, h.2 65 (by omega) e he, h.2 67 (by omega) e he, h.2 68 (by omega) e he]
theorem bk_ag.TR {D E : hb_G} {n : Nat} (h : bk_ag D E n) : ∀ {r : List Nat}, (∀ e ∈ r, e < n) → bk_TR E r = bk_TR D r
  | [], _ => rfl
  | e :: r, hr => by
    show bk_st E (bk_TR E r) e = bk_st D (bk_TR D r) e
    rw [h.TR (fun f hf => hr f (List.mem_cons_of_mem _ hf)), h.st (hr e List.mem_cons_self)]
theorem bk_ag.ok {D E : hb_G} {n : Nat} (h : bk_ag D E n) {e : Nat} (he : e < n) {p : bk_P} (hk : bk_ok D p e) : bk_ok E p e := by
  unfold bk_ok bk_my at hk ⊢
  rw [h.2 63 (by omega) e he, h.2 65 (by omega) e he, h.2 67 (by omega) e he, h.2 68 (by omega) e he, h.1 51 (by omega), h.1 48 (by omega)]
  exact hk
theorem bk_ag.LG {D E : hb_G} {n : Nat} (h : bk_ag D E n) : ∀ {r : List Nat}, (∀ e ∈ r, e < n) → bk_LG D r → bk_LG E r
  | [], _, _ => trivial
  | e :: r, hr, hl => ⟨by rw [h.TR (fun f hf => hr f (List.mem_cons_of_mem _ hf))]; exact h.ok (hr e List.mem_cons_self) hl.1, h.LG (fun f hf => hr f (List.mem_cons_of_mem _ hf)) hl.2⟩
theorem bk_ag.rk {D E : hb_G} {n : Nat} (h : bk_ag D E n) {e : Nat} (he : e < n) : bk_rk E e = bk_rk D e := by
  unfold bk_rk; rw [h.2 63 (by omega) e he]
theorem bk_ag.bf {D E : hb_G} {n : Nat} (h : bk_ag D E n) {e f : Nat} (he : e < n) (hf : f < n) (hb : bk_bf D e f) : bk_bf E e f := by
  unfold bk_bf at hb ⊢
  rw [h.rk he, h.rk hf, h.2 66 (by omega) e he, h.2 66 (by omega) f hf]
  exact hb
theorem bk_ag.pw {D E : hb_G} {n : Nat} (h : bk_ag D E n) {xs : List Nat} (hx : ∀ e ∈ xs, e < n) (hp : xs.Pairwise (bk_bf D)) : xs.Pairwise (bk_bf E) :=
  List.Pairwise.imp_of_mem (fun {a b} ha hb h9 => h.bf (hx a ha) (hx b hb) h9) hp
theorem bk_ag.fm {D E : hb_G} {n : Nat} (h : bk_ag D E n) {xs : List Nat} (hx : ∀ e ∈ xs, e < n) : xs.filter (bk_mb E) = xs.filter (bk_mb D) := by
  apply List.filter_congr
  intro e he
  unfold bk_mb
  rw [h.2 63 (by omega) e (hx e he)]
theorem bk_ag.lt {D E : hb_G} {n : Nat} (h : bk_ag D E n) {xs : List Nat} (hx : ∀ e ∈ xs, e < n) (hp : xs.Pairwise (bk_lt D)) : xs.Pairwise (bk_lt E) :=
  List.Pairwise.imp_of_mem (fun {a b} ha hb h9 => by unfold bk_lt at h9 ⊢; rw [h.2 66 (by omega) a (hx a ha), h.2 66 (by omega) b (hx b hb)]; exact h9) hp
theorem bk_ag.obj {D E G H : hb_G} {n : Nat} (h : bk_ag D E n) {e q : Nat} (he : e < n) (hq : H q = G q) (ho : bk_obj D G e q) : bk_obj E H e q := by
  unfold bk_obj at ho ⊢
  rw [hq, h.2 63 (by omega) e he, h.2 65 (by omega) e he, h.2 66 (by omega) e he, h.2 67 (by omega) e he, h.2 68 (by omega) e he, h.2 69 (by omega) e he]
  exact ho
theorem bk_ag.sb {D E : hb_G} {n : Nat} (h : bk_ag D E n) (hs : bk_sb D) : bk_sb E := by
  unfold bk_sb
  rw [h.1 48 (by omega), h.1 49 (by omega), h.1 50 (by omega), h.1 51 (by omega), h.1 52 (by omega), h.1 53 (by omega), h.1 54 (by omega), h.1 55 (by omega), h.1 56 (by omega), h.1 57 (by omega), h.1 58 (by omega), h.1 61 (by omega), h.1 62 (by omega)]
  exact hs
theorem bk_ag.sl {D E G : hb_G} {n : Nat} (h : bk_ag D E n) (hs : bk_sl D G) : bk_sl E G := by
  unfold bk_sl
  rw [h.1 48 (by omega), h.1 49 (by omega), h.1 50 (by omega), h.1 51 (by omega), h.1 52 (by omega), h.1 53 (by omega), h.1 54 (by omega), h.1 55 (by omega), h.1 56 (by omega), h.1 57 (by omega), h.1 58 (by omega), h.1 59 (by omega), h.1 60 (by omega), h.1 61 (by omega), h.1 62 (by omega)]
  exact hs
/-- the flights count where they counted -/
def bk_hs (D E : hb_G) (r : List Nat) : Prop := ∀ e ∈ r, D 63 e = 0 → ∀ t, 0 ≤ t ∧ t < 40 → (E 73 (40 * e + t) = E 65 e ↔ D 73 (40 * e + t) = D 65 e)
theorem bk_ag.fl {D E : hb_G} {n : Nat} (h : bk_ag D E n) {u t : Int} (ht : 0 ≤ t ∧ t < 40) : ∀ {r : List Nat}, (∀ e ∈ r, e < n) → bk_hs D E r → bk_fl E u t r = bk_fl D u t r
  | [], _, _ => by unfold bk_fl; rw [h.1 52 (by omega), h.1 53 (by omega)]
  | e :: r, hr, hh => by
    have he := hr e List.mem_cons_self
    have ih := h.fl (u := u) ht (fun f hf => hr f (List.mem_cons_of_mem _ hf)) (fun f hf => hh f (List.mem_cons_of_mem _ hf))
    unfold bk_fl
    rw [ih, h.2 63 (by omega) e he, h.2 67 (by omega) e he, h.2 68 (by omega) e he]
    by_cases e0 : D 63 e = 0
    · have h9 := hh e List.mem_cons_self e0 t ht
      by_cases e5 : D 73 (40 * e + t) = D 65 e
      · have p1 : D 63 e = 0 ∧ E 73 (40 * e + t) = E 65 e := ⟨e0, h9.mpr e5⟩
        have p2 : D 63 e = 0 ∧ D 73 (40 * e + t) = D 65 e := ⟨e0, e5⟩
        rw [if_pos p1, if_pos p2]
      · have p1 : ¬ (D 63 e = 0 ∧ E 73 (40 * e + t) = E 65 e) := fun h => e5 (h9.mp h.2)
        have p2 : ¬ (D 63 e = 0 ∧ D 73 (40 * e + t) = D 65 e) := fun h => e5 h.2
        rw [if_neg p1, if_neg p2]
    · have p1 : ¬ (D 63 e = 0 ∧ E 73 (40 * e + t) = E 65 e) := fun h => e0 h.1
      have p2 : ¬ (D 63 e = 0 ∧ D 73 (40 * e + t) = D 65 e) := fun h => e0 h.1
      rw [if_neg p1, if_neg p2]
theorem bk_ag.cn {D E : hb_G} {n : Nat} (h : bk_ag D E n) {t k : Int} : ∀ {r : List Nat}, (∀ e ∈ r, e < n) → bk_cn E t k r = bk_cn D t k r
  | [], _ => rfl
  | e :: r, hr => by
    have he := hr e List.mem_cons_self
    unfold bk_cn
    rw [h.cn (fun f hf => hr f (List.mem_cons_of_mem _ hf)), h.2 63 (by omega) e he, h.2 65 (by omega) e he, h.2 67 (by omega) e he]
theorem bk_ag.DU {D E : hb_G} {n : Nat} (h : bk_ag D E n) {u t k : Int} (ht : 0 ≤ t ∧ t < 40) : ∀ {r : List Nat}, (∀ e ∈ r, e < n) → bk_hs D E r → bk_DU E u t k r = bk_DU D u t k r
  | [], _, _ => by unfold bk_DU; rw [h.1 52 (by omega), h.1 53 (by omega), h.1 56 (by omega)]
  | e :: r, hr, hh => by
    have he := hr e List.mem_cons_self
    have hr2 := fun f hf => hr f (List.mem_cons_of_mem e hf)
    have hh2 : bk_hs D E r := fun f hf => hh f (List.mem_cons_of_mem e hf)
    unfold bk_DU bk_ct hb_aj
    rw [h.DU ht hr2 hh2, h.fl ht hr2 hh2, h.cn hr2, h.2 63 (by omega) e he, h.2 65 (by omega) e he, h.2 67 (by omega) e he, h.2 66 (by omega) e he, h.1 54 (by omega), h.1 56 (by omega), h.1 57 (by omega), h.2 68 (by omega) e he, h.2 69 (by omega) e he]
theorem bk_ag.SD {D E G : hb_G} {n : Nat} (h : bk_ag D E n) {r : List Nat} (hr : ∀ e ∈ r, e < n) (hh : bk_hs D E r) (hs : bk_SD D G r) : bk_SD E G r := by
  obtain ⟨S1, S2, S3, S4, S5⟩ := hs
  refine ⟨⟨by rw [h.TR hr]; exact S1.1, S1.2⟩, fun t ht hk => ?_, fun t k ht hk h1 h2 => ?_, fun t k ht hk => ?_, fun t o ht ho => ?_⟩
  · rw [h.1 51 (by omega)] at hk; rw [h.fl ht hr hh, h.fl ht hr hh]; exact S2 t ht hk
  · rw [h.1 51 (by omega)] at h1; rw [h.1 55 (by omega)] at h2; rw [h.DU ht hr hh, h.DU ht hr hh, h.DU ht hr hh]; exact S3 t k ht hk h1 h2
  · rw [h.cn hr]; exact S4 t k ht hk
  · have : bk_RB E t o r ↔ bk_RB D t o r := by
      unfold bk_RB
      refine exists_congr fun e => and_congr_right fun he => ?_
      rw [h.2 63 (by omega) e (hr e he), h.2 65 (by omega) e (hr e he), h.2 67 (by omega) e (hr e he)]
    rw [this]; exact S5 t o ht ho
theorem bk_ag.sh {D E G H : hb_G} {n : Nat} (h : bk_ag D E n) {xs : List Nat} (hx : ∀ e ∈ xs, e < n) (hh : bk_hs D E xs) (hk : ∀ p : Nat, 32 ≤ p ∧ p ≤ 45 → H p = G p) (hs : bk_sh D G xs) : bk_sh E H xs := by
  refine bk_sh_c (G := G) ?_ hk
  rcases hs with h1 | ⟨h1, a, b, h2, h3, h4, h5⟩
  · exact Or.inl h1
  · have ha : ∀ e ∈ a, e ∈ xs := fun e he => by rw [h2]; exact List.mem_append_left _ he
    have hb : ∀ e ∈ b, e ∈ xs := fun e he => by rw [h2]; exact List.mem_append_right _ he
    refine Or.inr ⟨h1, a, b, h2, ⟨fun f hf => by rw [h.2 66 (by omega) f (hx f (ha f hf))]; exact h3.1 f hf, fun f hf => by rw [h.2 66 (by omega) f (hx f (hb f hf))]; exact h3.2 f hf⟩, h4, h.SD (fun e he => hx e (ha e (List.mem_reverse.mp he))) (fun e he => hh e (ha e (List.mem_reverse.mp he))) h5⟩
/-! the parts of the invariant -/
def bk_cl (E G : hb_G) (F : hb_F) (na n : Nat) (xs : List Nat) (ob : Nat → Nat) : Prop := bk_sl E G ∧ G 25 3 = n ∧ G 25 4 = xs.length ∧ (∀ e ∈ xs, ob e < na ∧ bk_obj E G e (77 + ob e)) ∧ (∀ (j : Nat) (h : j < xs.length), F 27 j = some (77 + ob xs[j])) ∧ (∀ e ∈ xs, F 26 e = some (77 + ob e)) ∧ (∀ e, e < n → e ∉ xs → F 26 e = none) ∧ (∀ e ∈ xs, ∀ f ∈ xs, ob e = ob f → e = f) ∧ G 6 4 = bk_sz (G 7) 40
def bk_dt (E : hb_G) (n : Nat) (xs : List Nat) : Prop := bk_sb E ∧ xs.Pairwise (bk_bf E) ∧ (∀ e, e ∈ xs ↔ e < n ∧ E 64 e ≠ 0) ∧ (∀ e, e < n → bk_vd E e ∧ 0 ≤ E 69 e) ∧ n ≤ 200 ∧ (xs.filter (bk_mb E)).Pairwise (bk_lt E)
def bk_mi (E : hb_G) (xs : List Nat) : Prop := ∀ (a : List Nat) (e : Nat) (b : List Nat), xs = a ++ e :: b → E 63 e = 0 → ∀ t, 0 ≤ t ∧ t < 40 → (E 73 (40 * e + t) = E 65 e ↔ hb_tp (bk_TR E a.reverse).1 4 t = E 65 e)
def bk_rf (E G : hb_G) (n : Nat) (xs : List Nat) : Prop := bk_rw E G ∧ G 73 = E 73 ∧ G 47 17 = n ∧ G 47 18 = xs.length ∧ bk_mr E G xs ∧ G 47 4 = G 6 4
theorem bk_J_of {E G : hb_G} {F : hb_F} {na n : Nat} {xs : List Nat} {ob : Nat → Nat} (h1 : bk_cl E G F na n xs ob) (h2 : bk_dt E n xs) (h3 : bk_LG E xs.reverse) (h4 : bk_mi E xs) (h5 : bk_rf E G n xs) : bk_J E G F na n xs ob := by
  obtain ⟨a1, a2, a3, a4, a5, a6, a7, a8, a9⟩ := h1
  obtain ⟨b1, b2, b3, b4, b5, b6⟩ := h2
  obtain ⟨c1, c2, c3, c4, c5, c6⟩ := h5
  have hlen : xs.length ≤ 200 := Nat.le_trans (bk_nd_len (bk_nd b2) (fun x hx => ((b3 x).mp hx).1)) b5
  exact ⟨c1, c2, ⟨b1, a1, b2, fun e he => (b4 e ((b3 e).mp he).1).1, hlen, h3, h4, a3, a4, a5⟩, ⟨b5, c3, a2, c4, b3, b4, a6, a7, a8, b6⟩, c5, ⟨a9, c6⟩⟩
theorem bk_of_J {E G : hb_G} {F : hb_F} {na n : Nat} {xs : List Nat} {ob : Nat → Nat} (h : bk_J E G F na n xs ob) : bk_cl E G F na n xs ob ∧ bk_dt E n xs ∧ bk_LG E xs.reverse ∧ bk_mi E xs ∧ bk_rf E G n xs := by
  obtain ⟨c1, c2, ⟨b1, a1, b2, b7, hlen, h3, h4, a3, a4, a5⟩, ⟨b5, c3, a2, c4, b3, b4, a6, a7, a8, b6⟩, c5, ⟨a9, c6⟩⟩ := h
  exact ⟨⟨a1, a2, a3, a4, a5, a6, a7, a8, a9⟩, ⟨b1, b2, b3, b4, b5, b6⟩, h3, h4, c1, c2, c3, c4, c5, c6⟩
/-! the class's rows of entries -/
theorem bk_rksrt {w : Int} : hb_rk (bk_srt w) = if w = 1 ∨ w = 2 then 0 else if w = 0 then 1 else 2 := by
  unfold hb_rk bk_srt
  by_cases h0 : w = 0
  · subst h0; rfl
  · by_cases h1 : w = 1
    · subst h1; rfl
    · by_cases h2 : w = 2
      · subst h2; rfl
      · rw [if_neg h0, if_neg h1, if_neg h2, if_neg (by omega), if_neg (by omega), if_neg (by omega), if_neg h0]
theorem bk_cb {E G : hb_G} {e f a b : Nat} (ha : bk_obj E G e a) (hb : bk_obj E G f b) : hb_cb G a b ↔ bk_bf E e f := by
  unfold hb_cb bk_bf bk_rk
  rw [ha.1, hb.1, ha.2.2.1, hb.2.2.1, ha.2.2.2.1, hb.2.2.2.1, bk_rksrt, bk_rksrt]
  constructor <;> intro h <;> omega
theorem bk_mvo {E G : hb_G} {e q : Nat} (h : bk_obj E G e q) (h5 : 0 ≤ E 63 e) : (G q 0 = 0 ∨ G q 0 = 1) ↔ (E 63 e = 1 ∨ E 63 e = 2) := by
  rw [h.1]
  unfold bk_srt
  by_cases h0 : E 63 e = 0
  · rw [if_pos h0]; omega
  · by_cases h1 : E 63 e = 1
    · rw [if_neg h0, if_pos h1]; omega
    · by_cases h2 : E 63 e = 2
      · rw [if_neg h0, if_neg h1, if_pos h2]; omega
      · rw [if_neg h0, if_neg h1, if_neg h2]; omega
theorem bk_spl {E : hb_G} {n : Nat} : ∀ {xs : List Nat}, xs.Pairwise (bk_bf E) → n ∉ xs → ∃ x1 x2, xs = x1 ++ x2 ∧ (∀ f ∈ x1, bk_bf E f n) ∧ (∀ f ∈ x2, bk_bf E n f)
  | [], _, _ => ⟨[], [], rfl, fun _ h => (nomatch h), fun _ h => (nomatch h)⟩
  | e :: xs, h, hn => by
    have h1 := List.pairwise_cons.mp h
    have hne : e ≠ n := fun h => hn (h ▸ List.mem_cons_self)
    rcases bk_bf_to (D := E) hne with h2 | h2
    · obtain ⟨x1, x2, h3, h4, h5⟩ := bk_spl h1.2 (fun h => hn (List.mem_cons_of_mem _ h))
      exact ⟨e :: x1, x2, by rw [h3]; rfl, fun f hf => (List.mem_cons.mp hf).elim (fun h => h ▸ h2) (h4 f), h5⟩
    · exact ⟨[], e :: xs, rfl, fun _ h => (nomatch h), fun f hf => (List.mem_cons.mp hf).elim (fun h => h ▸ h2) (fun h => bk_bf_tr h2 (h1.1 f h))⟩
theorem bk_spw {E : hb_G} {n : Nat} {x1 x2 : List Nat} (h : (x1 ++ x2).Pairwise (bk_bf E)) (h1 : ∀ f ∈ x1, bk_bf E f n) (h2 : ∀ f ∈ x2, bk_bf E n f) : (x1 ++ n :: x2).Pairwise (bk_bf E) := by
  have hp := List.pairwise_append.mp h
  refine List.pairwise_append.mpr ⟨hp.1, List.pairwise_cons.mpr ⟨h2, hp.2.1⟩, fun a ha b hb => ?_⟩
  rcases List.mem_cons.mp hb with h3 | h3
  · rw [h3]; exact h1 a ha
  · exact hp.2.2 a ha b h3
/-- the row of entries in time, and the entries' objects -/
def bk_tm (E G : hb_G) (F : hb_F) (na : Nat) (xs : List Nat) (ob : Nat → Nat) : Prop := xs.length ≤ 200 ∧ G 25 4 = xs.length ∧ (∀ e ∈ xs, ob e < na ∧ bk_obj E G e (77 + ob e)) ∧ (∀ (j e : Nat), xs[j]? = some e → F 27 j = some (77 + ob e))
theorem bk_tm.jx {E G : hb_G} {F : hb_F} {na : Nat} {xs : List Nat} {ob : Nat → Nat} (h : bk_tm E G F na xs ob) : hb_tm F na (G 25 4) (bk_jx xs ob) := by
  obtain ⟨h1, h2, h3, h4⟩ := h
  rw [h2]
  refine ⟨by omega, by omega, fun k hk => ?_⟩
  have hk2 : k.toNat < xs.length := by omega
  have hkk : ((k.toNat : Nat) : Int) = k := Int.toNat_of_nonneg hk.1
  have hg := List.getElem?_eq_getElem hk2
  have h5 := bk_jx_e (ob := ob) hg
  have h6 := h4 _ _ hg
  rw [hkk] at h5 h6
  rw [h5]
  exact ⟨h6, (h3 _ (List.getElem_mem hk2)).1⟩
theorem bk_ins {l : Launch} {E G : hb_G} {F : hb_F} {na : Nat} {x1 x2 : List Nat} {ob : Nat → Nat} {n o : Nat} (ht : bk_tm E G F na (x1 ++ x2) ob) (h200 : (x1 ++ x2).length < 200) (ho : o < na) (hob : bk_obj E G n (77 + o)) (hon : ob n = o) (h1 : ∀ f ∈ x1, bk_bf E f n) (h2 : ∀ f ∈ x2, bk_bf E n f) (hG : hb_rg G) : ∃ F', hb_M l yX0_insert cX0_insert 3 none 3 0 0 [hb_r 25, hb_r (77 + o)] (hb_w G F na) (77 + na) (.inl none) (hb_w (hb_u2 G 25 4 (G 25 4 + 1)) F' na) (77 + na) ∧ bk_tm E (hb_u2 G 25 4 (G 25 4 + 1)) F' na (x1 ++ n :: x2) ob ∧ F' 26 = F 26 := by
  have hjx := ht.jx
  obtain ⟨t1, t2, t3, t4⟩ := ht
  have hlen : (x1 ++ x2).length = x1.length + x2.length := List.length_append
  have hat : ∀ (k : Int), 0 ≤ k ∧ k < G 25 4 → ∃ e, (x1 ++ x2)[k.toNat]? = some e ∧ bk_jx (x1 ++ x2) ob k = ob e ∧ e ∈ x1 ++ x2 := fun k hk => by
    have hk2 : k.toNat < (x1 ++ x2).length := by omega
    have hg := List.getElem?_eq_getElem hk2
    have h5 := bk_jx_e (ob := ob) hg
    rw [Int.toNat_of_nonneg hk.1] at h5
    exact ⟨_, hg, h5, List.getElem_mem hk2⟩
  have hM := c_insert (l := l) (G := G) (F := F) (na := na) (e := o) (jx := bk_jx (x1 ++ x2) ob) (i := x1.length) ho hjx (by omega) (by omega)
    (fun k hk => by
      obtain ⟨e, h5, h6, h7⟩ := hat k (by omega)
      rw [h6, bk_cb hob (t3 e h7).2]
      rw [List.getElem?_append_right (by omega)] at h5
      exact h2 e (List.mem_of_getElem? h5))
    (by
      by_cases hz : x1.length = 0
      · exact Or.inl (by omega)
      · refine Or.inr ⟨by omega, ?_⟩
        obtain ⟨e, h5, h6, h7⟩ := hat ((x1.length : Int) - 1) (by omega)
        rw [h6, bk_cb hob (t3 e h7).2]
        rw [List.getElem?_append_left (by omega)] at h5
        exact bk_bf_as (h1 e (List.mem_of_getElem? h5))) hG
  refine ⟨_, hM, ⟨?_, ?_, fun e he => ?_, fun j e he => ?_⟩, rfl⟩
  · rw [List.length_append, List.length_cons]; omega
  · rw [hb_u2_s, t2, List.length_append, List.length_append, List.length_cons]; omega
  · have : e = n ∨ e ∈ x1 ++ x2 := by
      rcases List.mem_append.mp he with h | h
      · exact Or.inr (List.mem_append_left _ h)
      · exact (List.mem_cons.mp h).elim Or.inl (fun h => Or.inr (List.mem_append_right _ h))
    have hrow : ∀ q : Nat, hb_u2 G 25 4 (G 25 4 + 1) (77 + q) = G (77 + q) := fun q => hb_u2_n (by omega)
    rcases this with h | h
    · subst h
      rw [hon]
      refine ⟨ho, ?_⟩
      unfold bk_obj; rw [hrow]; exact hob
    · refine ⟨(t3 e h).1, ?_⟩
      unfold bk_obj; rw [hrow]; exact (t3 e h).2
  · show hb_is (F 27) (G 25 4) x1.length (some (77 + o)) j = _
    unfold hb_is
    have hjl := (List.getElem?_eq_some_iff.mp he).1
    rw [List.length_append, List.length_cons] at hjl
    by_cases j1 : (j : Int) = x1.length
    · rw [if_pos j1]
      have : j = x1.length := by omega
      rw [this, List.getElem?_append_right (Nat.le_refl _), Nat.sub_self] at he
      have he : some n = some e := he
      cases he; rw [hon]
    · rw [if_neg j1]
      rcases Nat.lt_or_ge j x1.length with j2 | j2
      · rw [if_neg (by omega)]
        rw [List.getElem?_append_left j2] at he
        exact t4 j e (by rw [List.getElem?_append_left j2]; exact he)
      · rw [if_pos (by omega)]
        rw [List.getElem?_append_right j2] at he
        obtain ⟨k, hk⟩ : ∃ k, j - x1.length = k + 1 := ⟨j - x1.length - 1, by omega⟩
        rw [hk, List.getElem?_cons_succ] at he
        have h9 := t4 (j - 1) e (by rw [List.getElem?_append_right (by omega), show j - 1 - x1.length = k by omega]; exact he)
        rw [show ((j - 1 : Nat) : Int) = (j : Int) - 1 by omega] at h9
        exact h9
theorem bk_rem {l : Launch} {E G : hb_G} {F : hb_F} {na : Nat} {x1 x2 : List Nat} {ob : Nat → Nat} {n : Nat} (ht : bk_tm E G F na (x1 ++ n :: x2) ob) (hinj : ∀ e ∈ x1 ++ x2, ob e ≠ ob n) (hG : hb_rg G) : ∃ F', hb_M l yX0_remove cX0_remove 4 none 0 0 0 [hb_r 25, hb_r (77 + ob n)] (hb_w G F na) (77 + na) (.inl none) (hb_w (hb_u2 G 25 4 (G 25 4 - 1)) F' na) (77 + na) ∧ bk_tm E (hb_u2 G 25 4 (G 25 4 - 1)) F' na (x1 ++ x2) ob ∧ F' 26 = F 26 := by
  have hjx := ht.jx
  obtain ⟨t1, t2, t3, t4⟩ := ht
  have hlen : (x1 ++ n :: x2).length = x1.length + (x2.length + 1) := by rw [List.length_append, List.length_cons]
  have hgn : (x1 ++ n :: x2)[x1.length]? = some n := by rw [List.getElem?_append_right (Nat.le_refl _), Nat.sub_self]; rfl
  have hmn : n ∈ x1 ++ n :: x2 := List.mem_append_right _ List.mem_cons_self
  have hM := c_remove (l := l) (G := G) (F := F) (na := na) (e := ob n) (jx := bk_jx (x1 ++ n :: x2) ob) (i := x1.length) (t3 n hmn).1 hjx (by omega) (bk_jx_e hgn)
    (fun k hk hki => by
      have hk2 : k.toNat < (x1 ++ n :: x2).length := by omega
      obtain ⟨e, hg⟩ : ∃ e, (x1 ++ n :: x2)[k.toNat]? = some e := ⟨_, List.getElem?_eq_getElem hk2⟩
      have h5 := bk_jx_e (ob := ob) hg
      rw [Int.toNat_of_nonneg hk.1] at h5
      rw [h5]
      refine hinj e ?_
      rcases Nat.lt_or_ge k.toNat x1.length with h6 | h6
      · rw [List.getElem?_append_left h6] at hg
        exact List.mem_append_left _ (List.mem_of_getElem? hg)
      · rw [List.getElem?_append_right h6] at hg
        obtain ⟨z, hz⟩ : ∃ z, k.toNat - x1.length = z + 1 := ⟨k.toNat - x1.length - 1, by omega⟩
        rw [hz, List.getElem?_cons_succ] at hg
        exact List.mem_append_right _ (List.mem_of_getElem? hg)) hG
  refine ⟨_, hM, ⟨?_, ?_, fun e he => ?_, fun j e he => ?_⟩, rfl⟩
  · rw [List.length_append]; omega
  · rw [hb_u2_s, t2, hlen, List.length_append]; omega
  · have h : e ∈ x1 ++ n :: x2 := by
      rcases List.mem_append.mp he with h | h
      · exact List.mem_append_left _ h
      · exact List.mem_append_right _ (List.mem_cons_of_mem _ h)
    refine ⟨(t3 e h).1, ?_⟩
    unfold bk_obj; rw [hb_u2_n (show (77 + ob e : Nat) ≠ 25 by omega)]; exact (t3 e h).2
  · show hb_rv (F 27) x1.length (G 25 4 - 1) j = _
    unfold hb_rv
    have hjl := (List.getElem?_eq_some_iff.mp he).1
    rw [List.length_append] at hjl
    rcases Nat.lt_or_ge j x1.length with j2 | j2
    · rw [if_neg (by omega)]
      rw [List.getElem?_append_left j2] at he
      exact t4 j e (by rw [List.getElem?_append_left j2]; exact he)
    · rw [if_pos (by omega)]
      rw [List.getElem?_append_right j2] at he
      have h9 := t4 (j + 1) e (by rw [List.getElem?_append_right (by omega), show j + 1 - x1.length = (j - x1.length) + 1 by omega, List.getElem?_cons_succ]; exact he)
      exact h9
/-! the trial tree -/
theorem bk_tl {E G : hb_G} {F : hb_F} {na : Nat} {xs : List Nat} {ob : Nat → Nat} (hs : bk_sb E) (hsl : bk_sl E G) (ht : bk_tm E G F na xs ob) (hv : ∀ e ∈ xs, bk_vd E e) (hG : hb_rg G) : ∀ k : Nat, k ≤ xs.length → (∀ p : Nat, p ≠ 29 → p ≠ 30 → p ≠ 31 → hb_tl G (bk_jx xs ob) k p = G p) ∧ hb_rg (hb_tl G (bk_jx xs ob) k) ∧ hb_tr (hb_tl G (bk_jx xs ob) k 29) ∧ (∀ t, 0 ≤ t ∧ t < 40 → hb_tl G (bk_jx xs ob) k 29 t ≠ -1 → 0 ≤ hb_tl G (bk_jx xs ob) k 30 t ∧ hb_tl G (bk_jx xs ob) k 30 t < 4) ∧ (bk_LG E (xs.take k).reverse → bk_eq (bk_TR E (xs.take k).reverse).1 (hb_tl G (bk_jx xs ob) k 29) ∧ bk_eq (bk_TR E (xs.take k).reverse).2 (hb_tl G (bk_jx xs ob) k 30) ∧ bk_ch (hb_tl G (bk_jx xs ob) k 29) (hb_tl G (bk_jx xs ob) k 30) (hb_tl G (bk_jx xs ob) k 31))
  | 0, _ => by
    have fl : ∀ (g : Int → Int) (n v i : Int), 0 ≤ i ∧ i < n → hb_fl g n v i = v := fun g n v i h => if_pos h
    have z29 : hb_tl G (bk_jx xs ob) 0 29 = hb_fl (G 29) 40 (-1) := rfl
    have z30 : hb_tl G (bk_jx xs ob) 0 30 = hb_fl (G 30) 40 (-1) := rfl
    have z31 : hb_tl G (bk_jx xs ob) 0 31 = hb_fl (G 31) 160 (-1) := rfl
    refine ⟨fun p a1 a2 a3 => ?_, ?_, fun t ht9 => by rw [z29, fl _ _ _ _ ht9]; omega, fun t ht9 h => absurd (by rw [z29, fl _ _ _ _ ht9]) h, fun _ => ⟨fun t ht9 => by rw [z29, fl _ _ _ _ ht9]; rfl, fun t ht9 => by rw [z30, fl _ _ _ _ ht9]; rfl, fun a p ha hp => Or.inl ⟨by rw [z31, fl _ _ _ _ (by omega)], fun c hc => by rw [z29, fl _ _ _ _ hc]; rintro ⟨h, -⟩; omega⟩⟩⟩
    · unfold hb_tl hb_tc
      rw [bk_fil_n a3, bk_fil_n a2, bk_fil_n a1]
    · unfold hb_tl hb_tc
      exact bk_fil_rg (bk_fil_rg (bk_fil_rg hG (by decide)) (by decide)) (by decide)
  | k + 1, hk => by
    obtain ⟨i1, i2, i3, i4, i5⟩ := bk_tl hs hsl ht hv hG k (by omega)
    have hkl : k < xs.length := by omega
    have hg := List.getElem?_eq_getElem hkl
    have hme : xs[k] ∈ xs := List.getElem_mem hkl
    have hj := bk_jx_e (ob := ob) hg
    have hob := (ht.2.2.1 _ hme).2
    have hve := hv _ hme
    have hrow : hb_tl G (bk_jx xs ob) k (77 + ob xs[k]) = G (77 + ob xs[k]) := i1 _ (by omega) (by omega) (by omega)
    obtain ⟨o0, o1, o2, o3, o4, o5, o6, o7⟩ := hob
    obtain ⟨v1, v2, v3, v4, v5, v6, v7⟩ := hve
    have hrv : (xs.take (k + 1)).reverse = xs[k] :: (xs.take k).reverse := by
      rw [List.take_succ_eq_append_getElem hkl, List.reverse_append]; rfl
    have hvt : ∀ f ∈ (xs.take k).reverse, bk_vd E f := fun f hf => hv f (List.mem_of_mem_take (List.mem_reverse.mp hf))
    unfold hb_tl
    rw [hj]
    unfold hb_mv
    rw [hrow, o0, o1]
    generalize hS : hb_tl G (bk_jx xs ob) k = S at i1 i2 i3 i4 i5
    by_cases e1 : E 63 xs[k] = 1
    · have o4 := o4 e1
      have v6 := v6 e1
      rw [if_pos (by rw [e1]; rfl), o4.1, o4.2]
      refine ⟨fun p a1 a2 a3 => ?_, ?_, ?_, ?_, fun hL => ?_⟩
      · unfold hb_pt; rw [hb_u2_n a3, hb_u2_n a2, hb_u2_n a1]; exact i1 p a1 a2 a3
      · unfold hb_pt; exact ((i2.u2 (by constructor <;> omega)).u2 (by constructor <;> omega)).u2 (by constructor <;> omega)
      · intro t ht9
        show -1 ≤ hb_uf (S 29) (E 65 xs[k]) (E 67 xs[k]) t ∧ hb_uf (S 29) (E 65 xs[k]) (E 67 xs[k]) t < 40
        unfold hb_uf; split
        · omega
        · exact i3 t ht9
      · intro t ht9 hn
        have hn : hb_uf (S 29) (E 65 xs[k]) (E 67 xs[k]) t ≠ -1 := hn
        show 0 ≤ hb_uf (S 30) (E 65 xs[k]) (E 68 xs[k]) t ∧ hb_uf (S 30) (E 65 xs[k]) (E 68 xs[k]) t < 4
        unfold hb_uf at hn ⊢
        by_cases et : t = E 65 xs[k]
        · rw [if_pos et]; exact v6.2
        · rw [if_neg et] at hn ⊢; exact i4 t ht9 hn
      · rw [hrv] at hL ⊢
        obtain ⟨q1, q2, q3⟩ := i5 hL.2
        have hmy := hL.1.1 e1
        have hst : bk_TR E (xs[k] :: (xs.take k).reverse) = (hb_uf (bk_TR E (xs.take k).reverse).1 (E 65 xs[k]) (E 67 xs[k]), hb_uf (bk_TR E (xs.take k).reverse).2 (E 65 xs[k]) (E 68 xs[k])) := by
          show bk_st E _ _ = _
          unfold bk_st; rw [if_pos e1]
        rw [hst]
        refine ⟨fun t ht9 => ?_, fun t ht9 => ?_, ?_⟩
        · show hb_uf (S 29) _ _ t = hb_uf (bk_TR E (xs.take k).reverse).1 _ _ t
          unfold hb_uf; rw [q1 t ht9]
        · show hb_uf (S 30) _ _ t = hb_uf (bk_TR E (xs.take k).reverse).2 _ _ t
          unfold hb_uf; rw [q2 t ht9]
        · exact bk_ch_pt q3 v3.1 v6.1.1 v6.2 (by rw [q1 _ v3.1]; exact hmy.1)
    · have hs1 : ¬ bk_srt (E 63 xs[k]) = 0 := by
        unfold bk_srt
        split
        · omega
        · split <;> omega
      rw [if_neg hs1]
      by_cases e2 : E 63 xs[k] = 2
      · rw [if_pos (by rw [e2]; rfl)]
        refine ⟨fun p a1 a2 a3 => ?_, ?_, ?_, ?_, fun hL => ?_⟩
        · unfold hb_tk; rw [hb_u2_n a2, hb_u2_n a1, hb_u2_n a3]; exact i1 p a1 a2 a3
        · unfold hb_tk; exact ((i2.u2 (by decide)).u2 (by decide)).u2 (by decide)
        · intro t ht9
          show -1 ≤ hb_uf (S 29) (E 65 xs[k]) (-1) t ∧ hb_uf (S 29) (E 65 xs[k]) (-1) t < 40
          unfold hb_uf; split
          · omega
          · exact i3 t ht9
        · intro t ht9 hn
          have hn : hb_uf (S 29) (E 65 xs[k]) (-1) t ≠ -1 := hn
          show 0 ≤ hb_uf (S 30) (E 65 xs[k]) (-1) t ∧ hb_uf (S 30) (E 65 xs[k]) (-1) t < 4
          unfold hb_uf at hn ⊢
          by_cases et : t = E 65 xs[k]
          · rw [if_pos et] at hn; exact absurd rfl hn
          · rw [if_neg et] at hn ⊢; exact i4 t ht9 hn
        · rw [hrv] at hL ⊢
          obtain ⟨q1, q2, q3⟩ := i5 hL.2
          have hmy := hL.1.2 e2
          have hTI := bk_TI_c q1 q2 (fun _ _ h => h) (bk_TR_TI hvt hL.2)
          have hst : bk_TR E (xs[k] :: (xs.take k).reverse) = (hb_uf (bk_TR E (xs.take k).reverse).1 (E 65 xs[k]) (-1), hb_uf (bk_TR E (xs.take k).reverse).2 (E 65 xs[k]) (-1)) := by
            show bk_st E _ _ = _
            unfold bk_st; rw [if_neg e1, if_pos e2]
          rw [hst]
          refine ⟨fun t ht9 => ?_, fun t ht9 => ?_, ?_⟩
          · show hb_uf (S 29) _ _ t = hb_uf (bk_TR E (xs.take k).reverse).1 _ _ t
            unfold hb_uf; rw [q1 t ht9]
          · show hb_uf (S 30) _ _ t = hb_uf (bk_TR E (xs.take k).reverse).2 _ _ t
            unfold hb_uf; rw [q2 t ht9]
          · have hne : S 29 (E 65 xs[k]) ≠ -1 := by rw [q1 _ v3.1]; exact hmy
            exact bk_ch_tk hTI q3 v3.1 hne
      · have hs2 : ¬ bk_srt (E 63 xs[k]) = 1 := by
          unfold bk_srt
          by_cases e0 : E 63 xs[k] = 0
          · rw [if_pos e0]; omega
          · rw [if_neg e0, if_neg e1, if_neg e2]; exact e1
        rw [if_neg hs2]
        refine ⟨i1, i2, i3, i4, fun hL => ?_⟩
        rw [hrv] at hL ⊢
        have hst : bk_TR E (xs[k] :: (xs.take k).reverse) = bk_TR E (xs.take k).reverse := bk_st_n (by omega)
        rw [hst]; exact i5 hL.2
/-! may it be so? -/
theorem bk_poss {l : Launch} {E G : hb_G} {F : hb_F} {na : Nat} {xs : List Nat} {ob : Nat → Nat} (hs : bk_sb E) (hsl : bk_sl E G) (ht : bk_tm E G F na xs ob) (hv : ∀ e ∈ xs, bk_vd E e) (hG : hb_rg G) :
    (bk_LG E xs.reverse → ∃ H, hb_M l yX0_isPossible cX0_isPossible 3 (some .boolean) 3 0 0 [hb_r 25] (hb_w G F na) (77 + na) (.inl (some (hb_i 1))) (hb_w H F na) (77 + na) ∧ (∀ p : Nat, p ≠ 29 → p ≠ 30 → p ≠ 31 → H p = G p) ∧ hb_rg H) ∧
    (¬ bk_LG E xs.reverse → ∃ H, hb_M l yX0_isPossible cX0_isPossible 3 (some .boolean) 3 0 0 [hb_r 25] (hb_w G F na) (77 + na) (.inl (some (hb_i 0))) (hb_w H F na) (77 + na) ∧ (∀ p : Nat, p ≠ 29 → p ≠ 30 → p ≠ 31 → H p = G p) ∧ hb_rg H) := by
  have htl := bk_tl hs hsl ht hv hG
  have hjx := ht.jx
  have h200 := ht.1
  have h254 := ht.2.1
  have hF : ∀ k : Nat, k < xs.length → F 27 k = some (77 + bk_jx xs ob k) ∧ bk_jx xs ob k < na := fun k hk => hjx.2.2 k (by rw [h254]; omega)
  have h25 : ∀ k : Nat, k ≤ xs.length → hb_tl G (bk_jx xs ob) k 25 4 = (xs.length : Nat) := fun k hk => by rw [(htl k hk).1 25 (by decide) (by decide) (by decide)]; exact h254
  have hpre : ∀ k : Nat, k < xs.length → hb_mp (hb_tl G (bk_jx xs ob) k) 28 (77 + bk_jx xs ob k) := fun k hk => by
    obtain ⟨i1, i2, i3, i4, i5⟩ := htl k (by omega)
    have hg := List.getElem?_eq_getElem hk
    have hme : xs[k] ∈ xs := List.getElem_mem hk
    have hrow : hb_tl G (bk_jx xs ob) k (77 + ob xs[k]) = G (77 + ob xs[k]) := i1 _ (by omega) (by omega) (by omega)
    obtain ⟨o0, o1, o2, o3, o4, o5, o6, o7⟩ := (ht.2.2.1 _ hme).2
    obtain ⟨v1, v2, v3, v4, v5, v6, v7⟩ := hv _ hme
    rw [bk_jx_e hg]
    unfold hb_mp
    rw [hrow, o0, o1, i1 7 (by decide) (by decide) (by decide)]
    refine ⟨i2, i3, v3.1, fun h => ?_, fun h => i4 _ v3.1⟩
    have e1 : E 63 xs[k] = 1 := by
      unfold bk_srt at h
      by_cases e0 : E 63 xs[k] = 0
      · rw [if_pos e0] at h; omega
      · rw [if_neg e0] at h
        by_cases e1 : E 63 xs[k] = 1
        · exact e1
        · rw [if_neg e1] at h; split at h <;> omega
    have v6 := v6 e1
    have o4 := o4 e1
    rw [o4.1, o4.2, (hsl.2.1 _ v6.1.1).1]
    have := (hs.2.2.1 _ v6.1.1).1
    exact ⟨v6.1.1, v6.2, by omega⟩
  have hmok : ∀ k : Nat, (hk : k < xs.length) → bk_LG E (xs.take k).reverse → (hb_mok (hb_tl G (bk_jx xs ob) k) 28 (77 + bk_jx xs ob k) ↔ bk_ok E (bk_TR E (xs.take k).reverse) xs[k]) := fun k hk hL => by
    obtain ⟨i1, i2, i3, i4, i5⟩ := htl k (by omega)
    obtain ⟨q1, q2, q3⟩ := i5 hL
    have hg := List.getElem?_eq_getElem hk
    have hme : xs[k] ∈ xs := List.getElem_mem hk
    have hrow : hb_tl G (bk_jx xs ob) k (77 + ob xs[k]) = G (77 + ob xs[k]) := i1 _ (by omega) (by omega) (by omega)
    obtain ⟨o0, o1, o2, o3, o4, o5, o6, o7⟩ := (ht.2.2.1 _ hme).2
    obtain ⟨v1, v2, v3, v4, v5, v6, v7⟩ := hv _ hme
    have hvt : ∀ f ∈ (xs.take k).reverse, bk_vd E f := fun f hf => hv f (List.mem_of_mem_take (List.mem_reverse.mp hf))
    have hTR := bk_TR_TI hvt hL
    have hTI := bk_TI_c q1 q2 (fun _ _ h => h) hTR
    rw [bk_jx_e hg]
    unfold hb_mok bk_ok
    rw [hrow, o0, o1]
    by_cases e1 : E 63 xs[k] = 1
    · have v6 := v6 e1
      have o4 := o4 e1
      have hb := (hs.2.2.1 _ v6.1.1).1
      rw [o4.1, o4.2]
      have hok : hb_ok (hb_tl G (bk_jx xs ob) k) (hb_tl G (bk_jx xs ob) k 29) (hb_tl G (bk_jx xs ob) k 31) (E 65 xs[k]) (E 67 xs[k]) (E 68 xs[k]) ↔ bk_my E (bk_TR E (xs.take k).reverse).1 (bk_TR E (xs.take k).reverse).2 (E 65 xs[k]) (E 67 xs[k]) (E 68 xs[k]) := by
        rw [bk_ok_m (D := E) hTI q3 v3.1 v6.1.1 v6.2 (by rw [i1 2 (by decide) (by decide) (by decide), i1 7 (by decide) (by decide) (by decide), (hsl.2.1 _ v6.1.1).1, hsl.1 (E 51 (E 67 xs[k]) * 4 + E 68 xs[k]) (by omega), Int.mul_comm]) (by rw [i1 7 (by decide) (by decide) (by decide)]; exact (hsl.2.1 _ v3.1).1.symm)]
        exact bk_my_c (G := E) q1 q2 rfl rfl hTR.1 v3.1 v6.1.1
      constructor
      · rintro ⟨h1, -⟩
        exact ⟨fun _ => hok.mp (h1 (by rw [e1]; rfl)), fun h => by omega⟩
      · rintro ⟨h1, -⟩
        exact ⟨fun _ => hok.mpr (h1 e1), fun h => by rw [e1] at h; exact absurd h (by decide)⟩
    · by_cases e2 : E 63 xs[k] = 2
      · have hp : hb_tl G (bk_jx xs ob) k 29 (E 65 xs[k]) = (bk_TR E (xs.take k).reverse).1 (E 65 xs[k]) := q1 _ v3.1
        constructor
        · rintro ⟨-, h2⟩
          exact ⟨fun h => absurd h e1, fun _ => by rw [← hp]; exact h2 (by rw [e2]; rfl)⟩
        · rintro ⟨-, h2⟩
          exact ⟨fun h => by rw [e2] at h; exact absurd h (by decide), fun _ => by show hb_tl G (bk_jx xs ob) k 29 _ ≠ -1; rw [hp]; exact h2 e2⟩
      · have hn : ¬ (G (77 + ob xs[k]) 0 = 0 ∨ G (77 + ob xs[k]) 0 = 1) := fun h => by
          have := (bk_mvo (ht.2.2.1 _ hme).2 v1.1).mp h
          omega
        rw [o0] at hn
        exact ⟨fun _ => ⟨fun h => absurd h e1, fun h => absurd h e2⟩, fun _ => ⟨fun h => absurd (Or.inl h) hn, fun h => absurd (Or.inr h) hn⟩⟩
  have hLt : ∀ (k m : Nat), k ≤ m → bk_LG E (xs.take m).reverse → bk_LG E (xs.take k).reverse := fun k m hkm hL => by
    have : xs.take m = xs.take k ++ (xs.take m).drop k := by
      conv => lhs; rw [← List.take_append_drop k (xs.take m)]
      rw [List.take_take, Nat.min_eq_left hkm]
    rw [this, List.reverse_append] at hL
    exact bk_LG_a hL
  constructor
  · intro hL
    have hLx : bk_LG E (xs.take xs.length).reverse := by rw [List.take_length]; exact hL
    refine ⟨_, c_isPossibleY (l := l) (jx := bk_jx xs ob) (n := xs.length) h200 hF h25 hpre (fun k hk => ?_), (htl _ (Nat.le_refl _)).1, (htl _ (Nat.le_refl _)).2.1⟩
    refine (hmok k hk (hLt k _ (by omega) hLx)).mpr ?_
    have h2 := hLt (k + 1) _ (by omega) hLx
    rw [List.take_succ_eq_append_getElem hk, List.reverse_append] at h2
    exact h2.1
  · intro hL
    rcases bk_LG_ex (D := E) xs with h | ⟨m, e, he, hLm, hno⟩
    · exact absurd h hL
    · obtain ⟨hml, hme⟩ := List.getElem?_eq_some_iff.mp he
      refine ⟨_, c_isPossibleN (l := l) (jx := bk_jx xs ob) (n := xs.length) (k0 := m) h200 hF h25 hpre hml (fun k hk => ?_) (fun h => hno ?_), (htl m (by omega)).1, (htl m (by omega)).2.1⟩
      · refine (hmok k (by omega) (hLt k m (by omega) hLm)).mpr ?_
        have h2 := hLt (k + 1) m (by omega) hLm
        rw [List.take_succ_eq_append_getElem (show k < xs.length by omega), List.reverse_append] at h2
        exact h2.1
      · have := (hmok m hml hLm).mp h
        rw [hme] at this
        exact this
theorem bk_hma {l : Launch} {E G : hb_G} {F : hb_F} {na : Nat} {xs : List Nat} {ob : Nat → Nat} (ht : bk_tm E G F na xs ob) (hv : ∀ e ∈ xs, bk_vd E e) (hG : hb_rg G) {pt : Int} (hpt : hb_in pt) : hb_M l yX0_hasMoveAt cX0_hasMoveAt 3 (some .boolean) 1 0 0 [hb_r 25, hb_i pt] (hb_w G F na) (77 + na) (.inl (some (hb_i (hb_b (∃ e, e ∈ xs ∧ E 66 e = pt ∧ (E 63 e = 1 ∨ E 63 e = 2)))))) (hb_w G F na) (77 + na) := by
  have h := c_hasMoveAt (l := l) (G := G) hpt ht.jx hG
  have hiff : (∃ k, 0 ≤ k ∧ k < G 25 4 ∧ G (77 + bk_jx xs ob k) 2 = pt ∧ (G (77 + bk_jx xs ob k) 0 = 0 ∨ G (77 + bk_jx xs ob k) 0 = 1)) ↔ ∃ e, e ∈ xs ∧ E 66 e = pt ∧ (E 63 e = 1 ∨ E 63 e = 2) := by
    constructor
    · rintro ⟨k, h1, h2, h3, h4⟩
      have hk2 : k.toNat < xs.length := by have := ht.2.1; omega
      have hg := List.getElem?_eq_getElem hk2
      have h5 := bk_jx_e (ob := ob) hg
      rw [Int.toNat_of_nonneg h1] at h5
      have hme := List.getElem_mem hk2
      have hob := (ht.2.2.1 _ hme).2
      rw [h5] at h3 h4
      exact ⟨_, hme, by rw [← hob.2.2.1]; exact h3, (bk_mvo hob (hv _ hme).1.1).mp h4⟩
    · rintro ⟨e, h1, h2, h3⟩
      obtain ⟨j, hj1, hj2⟩ := List.getElem_of_mem h1
      have hg : xs[j]? = some e := by rw [List.getElem?_eq_getElem hj1, hj2]
      have hob := (ht.2.2.1 _ h1).2
      refine ⟨j, by omega, by rw [ht.2.1]; omega, ?_, ?_⟩
      · rw [bk_jx_e hg, hob.2.2.1]; exact h2
      · rw [bk_jx_e hg]; exact (bk_mvo hob (hv _ h1).1.1).mpr h3
  rw [propext hiff] at h
  exact h
