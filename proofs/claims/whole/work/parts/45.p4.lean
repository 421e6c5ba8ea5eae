/-! the book: its entries, their order, what stands after them -/
def bk_rk (D : hb_G) (e : Nat) : Int := if D 63 e = 1 ∨ D 63 e = 2 then 0 else if D 63 e = 0 then 1 else 2
def bk_bf (D : hb_G) (e f : Nat) : Prop := D 66 e < D 66 f ∨ (D 66 e = D 66 f ∧ (bk_rk D e < bk_rk D f ∨ (bk_rk D e = bk_rk D f ∧ e < f)))
def bk_mb (D : hb_G) (e : Nat) : Bool := decide (D 63 e = 1 ∨ D 63 e = 2)
def bk_vd (D : hb_G) (e : Nat) : Prop := (0 ≤ D 63 e ∧ D 63 e ≤ 5) ∧ (D 64 e = 0 ∨ D 64 e = 1) ∧ ((0 ≤ D 65 e ∧ D 65 e < 40) ∧ D 51 (D 65 e) ≠ -1) ∧ (0 ≤ D 66 e ∧ D 66 e ≤ 3000099) ∧ (D 63 e = 0 → hb_jm D (D 65 e) ∧ (0 ≤ D 67 e ∧ D 67 e ≤ 100000) ∧ (0 ≤ D 68 e ∧ D 68 e ≤ 100000)) ∧ (D 63 e = 1 → ((0 ≤ D 67 e ∧ D 67 e < 40) ∧ D 51 (D 67 e) ≠ -1) ∧ (0 ≤ D 68 e ∧ D 68 e < 4)) ∧ (D 63 e = 3 ∨ D 63 e = 4 → (0 ≤ D 67 e ∧ D 67 e < 16) ∧ D 55 (D 67 e) ≠ -1) ∧ (D 63 e = 4 → (0 ≤ D 68 e ∧ D 68 e ≤ 10000) ∧ 0 ≤ D 69 e ∧ D 69 e / 10001 ≤ 10000) ∧ (D 63 e = 5 → 0 ≤ D 67 e ∧ D 67 e < 8)
def bk_ok (D : hb_G) (p : bk_P) (e : Nat) : Prop := (D 63 e = 1 → bk_my D p.1 p.2 (D 65 e) (D 67 e) (D 68 e)) ∧ (D 63 e = 2 → p.1 (D 65 e) ≠ -1)
/-- the past, the latest first, was possible -/
def bk_LG (D : hb_G) (r : List Nat) : Prop := match r with
  | [] => True
  | e :: r => bk_ok D (bk_TR D r) e ∧ bk_LG D r
theorem bk_TI_0 {D : hb_G} : bk_TI D (fun _ => -1) (fun _ => -1) := ⟨fun t ht => ⟨Int.le_refl _, (by show (-1 : Int) < 40; omega)⟩, fun t ht => Or.inl rfl, fun t ht h => absurd rfl h, fun c d hc hd h => absurd rfl h⟩
theorem bk_TR_TI {D : hb_G} : ∀ {r : List Nat}, (∀ e ∈ r, bk_vd D e) → bk_LG D r → bk_TI D (bk_TR D r).1 (bk_TR D r).2
  | [], _, _ => bk_TI_0
  | e :: r, hv, hl => by
    have ih := bk_TR_TI (fun f hf => hv f (List.mem_cons_of_mem _ hf)) hl.2
    obtain ⟨v1, v2, v3, v4, v5, v6, v7⟩ := hv e List.mem_cons_self
    show bk_TI D (bk_st D (bk_TR D r) e).1 (bk_st D (bk_TR D r) e).2
    unfold bk_st
    by_cases e1 : D 63 e = 1
    · rw [if_pos e1]
      exact bk_TI_pt ih v3.1 (v6 e1).1.1 (v6 e1).2 v3.2 (hl.1.1 e1)
    · rw [if_neg e1]
      by_cases e2 : D 63 e = 2
      · rw [if_pos e2]; exact bk_TI_tk ih
      · rw [if_neg e2]; exact ih
theorem bk_st_n {D : hb_G} {p : bk_P} {e : Nat} (h : ¬ (D 63 e = 1 ∨ D 63 e = 2)) : bk_st D p e = p := by
  unfold bk_st
  rw [if_neg (fun h9 => h (Or.inl h9)), if_neg (fun h9 => h (Or.inr h9))]
theorem bk_ok_n {D : hb_G} {p : bk_P} {e : Nat} (h : ¬ (D 63 e = 1 ∨ D 63 e = 2)) : bk_ok D p e := ⟨fun h9 => absurd (Or.inl h9) h, fun h9 => absurd (Or.inr h9) h⟩
theorem bk_TR_f {D : hb_G} : ∀ {r : List Nat}, bk_TR D (r.filter (bk_mb D)) = bk_TR D r
  | [] => rfl
  | e :: r => by
    by_cases h : D 63 e = 1 ∨ D 63 e = 2
    · rw [List.filter_cons_of_pos (by simpa [bk_mb] using h)]
      show bk_st D (bk_TR D (r.filter (bk_mb D))) e = bk_st D (bk_TR D r) e
      rw [bk_TR_f]
    · rw [List.filter_cons_of_neg (by simpa [bk_mb] using h), bk_TR_f]
      exact (bk_st_n h).symm
theorem bk_LG_f {D : hb_G} : ∀ {r : List Nat}, bk_LG D (r.filter (bk_mb D)) ↔ bk_LG D r
  | [] => Iff.rfl
  | e :: r => by
    by_cases h : D 63 e = 1 ∨ D 63 e = 2
    · rw [List.filter_cons_of_pos (by simpa [bk_mb] using h)]
      show bk_ok D (bk_TR D (r.filter (bk_mb D))) e ∧ bk_LG D (r.filter (bk_mb D)) ↔ bk_ok D (bk_TR D r) e ∧ bk_LG D r
      rw [bk_TR_f, bk_LG_f]
    · rw [List.filter_cons_of_neg (by simpa [bk_mb] using h), bk_LG_f]
      exact ⟨fun h9 => ⟨bk_ok_n h, h9⟩, fun h9 => h9.2⟩
theorem bk_LG_a {D : hb_G} : ∀ {a b : List Nat}, bk_LG D (a ++ b) → bk_LG D b
  | [], b, h => h
  | e :: a, b, h => bk_LG_a (a := a) h.2
/-- counters -/
def bk_fl (D : hb_G) (u t : Int) (r : List Nat) : Int := match r with
  | [] => if u = 0 then D 52 t else D 53 t
  | e :: r => if D 63 e = 0 ∧ D 73 (40 * e + t) = D 65 e then bk_fl D u t r + (if u = 0 then D 67 e else D 68 e) else bk_fl D u t r
def bk_ct (D : hb_G) (u t : Int) (e : Nat) (r : List Nat) : Int := if u = 2 then D 66 e / 100 - D 54 t else bk_fl D u t r
/-- a concession counts since the last doing -/
def bk_cn (D : hb_G) (t k : Int) (r : List Nat) : Int := match r with
  | [] => 0
  | e :: r => if D 63 e = 4 ∧ D 65 e = t ∧ D 67 e = k then 1 else if D 63 e = 3 ∧ D 65 e = t ∧ D 67 e = k then 0 else bk_cn D t k r
def bk_DU (D : hb_G) (u t k : Int) (r : List Nat) : Int := match r with
  | [] => (if u = 2 then 0 else if u = 0 then D 52 t else D 53 t) + D 56 (3 * k + u)
  | e :: r => if D 63 e = 3 ∧ D 65 e = t ∧ D 67 e = k then hb_d1 (bk_ct D u t e r) (bk_DU D u t k r) (D 56 (3 * k + u)) (D 56 (3 * k + u) * D 57 k / 1000) else if (D 63 e = 4 ∧ D 65 e = t ∧ D 67 e = k) ∧ bk_cn D t k r = 0 then bk_DU D u t k r + hb_aj D e u else bk_DU D u t k r
def bk_RB (D : hb_G) (t o : Int) (r : List Nat) : Prop := ∃ e ∈ r, D 63 e = 5 ∧ D 65 e = t ∧ D 67 e = o
theorem bk_cn_01 {D : hb_G} {t k : Int} : ∀ {r : List Nat}, bk_cn D t k r = 0 ∨ bk_cn D t k r = 1
  | [] => Or.inl rfl
  | e :: r => by
    unfold bk_cn
    split
    · exact Or.inr rfl
    · split
      · exact Or.inl rfl
      · exact bk_cn_01
/-- sums over lists -/
def bk_su (g : Nat → Int) (l : List Nat) : Int := match l with
  | [] => 0
  | e :: l => g e + bk_su g l
theorem bk_su_p {g : Nat → Int} {a b : List Nat} (h : a.Perm b) : bk_su g a = bk_su g b := by
  induction h with
  | nil => rfl
  | cons x _ ih => show g x + _ = g x + _; rw [ih]
  | swap x y l => show g y + (g x + _) = g x + (g y + _); omega
  | trans _ _ ih1 ih2 => rw [ih1, ih2]
theorem bk_su_f {g : Nat → Int} {c : Nat → Bool} : ∀ {l : List Nat}, bk_su g (l.filter c) = bk_su (fun e => if c e = true then g e else 0) l
  | [] => rfl
  | e :: l => by
    by_cases h : c e = true
    · rw [List.filter_cons_of_pos h]
      show g e + _ = (if c e = true then g e else 0) + _
      rw [if_pos h, bk_su_f]
    · rw [List.filter_cons_of_neg h, bk_su_f]
      show _ = (if c e = true then g e else 0) + _
      rw [if_neg h]; omega
theorem bk_su_r {g : Nat → Int} : ∀ {n : Nat}, bk_su g (List.range (n + 1)) = bk_su g (List.range n) + g n := by
  intro n
  have : ∀ (a b : List Nat), bk_su g (a ++ b) = bk_su g a + bk_su g b := by
    intro a b
    induction a with
    | nil => show bk_su g b = 0 + bk_su g b; omega
    | cons x a ih => show g x + bk_su g (a ++ b) = g x + bk_su g a + bk_su g b; omega
  rw [List.range_succ, this]
  show _ + (g n + 0) = _
  omega
noncomputable def bk_hit (D : hb_G) (u t : Int) (e : Nat) : Int := if D 63 e = 0 ∧ D 73 (40 * e + t) = D 65 e then (if u = 0 then D 67 e else D 68 e) else 0
theorem bk_fl_s {D : hb_G} {u t : Int} : ∀ {r : List Nat}, bk_fl D u t r = (if u = 0 then D 52 t else D 53 t) + bk_su (bk_hit D u t) r
  | [] => by show _ = _ + 0; unfold bk_fl; omega
  | e :: r => by
    show (if D 63 e = 0 ∧ D 73 (40 * e + t) = D 65 e then bk_fl D u t r + (if u = 0 then D 67 e else D 68 e) else bk_fl D u t r) = _ + (bk_hit D u t e + bk_su (bk_hit D u t) r)
    rw [bk_fl_s (r := r)]
    unfold bk_hit
    by_cases h : D 63 e = 0 ∧ D 73 (40 * e + t) = D 65 e
    · rw [if_pos h, if_pos h]; omega
    · rw [if_neg h, if_neg h]; omega
/-- the reference's sum over the numbers is the sum over the past -/
theorem bk_sm {D : hb_G} {u t pt : Int} {n : Nat} {r : List Nat} (hn : r.Nodup) (hr : ∀ e, e < n → (D 63 e = 0 → (e ∈ r ↔ D 64 e ≠ 0 ∧ D 66 e ≤ pt))) (hr2 : ∀ e ∈ r, e < n) : hb_sm D t u pt n = bk_fl D u t r := by
  have h1 : ∀ m, hb_sm D t u pt m = (if u = 0 then D 52 t else D 53 t) + bk_su (fun e => @ite Int (hb_fq D t pt e) (Classical.propDecidable _) (if u = 0 then D 67 e else D 68 e) 0) (List.range m) := by
    intro m
    induction m with
    | zero => show _ = _ + 0; unfold hb_sm; omega
    | succ m ih =>
      rw [bk_su_r]
      unfold hb_sm
      rw [ih]
      by_cases h : hb_fq D t pt m
      · rw [if_pos h]; simp only [if_pos h]; omega
      · rw [if_neg h]; simp only [if_neg h]; omega
  rw [h1, bk_fl_s]
  congr 1
  let c : Nat → Bool := fun e => decide (D 63 e = 0 ∧ D 73 (40 * e + t) = D 65 e)
  let c2 : Nat → Bool := fun e => @decide (hb_fq D t pt e) (Classical.propDecidable _)
  let g : Nat → Int := fun e => if u = 0 then D 67 e else D 68 e
  have e1 : bk_su (bk_hit D u t) r = bk_su g (r.filter c) := by
    rw [bk_su_f]
    congr 1
    funext e
    unfold bk_hit
    simp only [c, decide_eq_true_eq]
    rfl
  have e2 : bk_su (fun e : Nat => @ite Int (hb_fq D t pt e) (Classical.propDecidable _) (if u = 0 then D 67 e else D 68 e) 0) (List.range n) = bk_su g ((List.range n).filter c2) := by
    rw [bk_su_f]
    congr 1
    funext e
    by_cases h : hb_fq D t pt e
    · have hc : c2 e = true := @decide_eq_true _ (Classical.propDecidable _) h
      rw [if_pos hc]; exact if_pos h
    · have hc : ¬ c2 e = true := fun h9 => h (@of_decide_eq_true _ (Classical.propDecidable _) h9)
      rw [if_neg hc]; exact if_neg h
  rw [e1, e2]
  apply bk_su_p
  refine (List.perm_ext_iff_of_nodup (List.nodup_range.filter _) (hn.filter _)).mpr fun e => ?_
  simp only [List.mem_filter, List.mem_range, c, c2, decide_eq_true_eq]
  constructor
  · rintro ⟨h2, h3, h4, h5, h6⟩
    exact ⟨(hr e h2 h4).mpr ⟨h3, h5⟩, h4, h6⟩
  · rintro ⟨h2, h3, h4⟩
    have h5 := hr2 e h2
    have h6 := (hr e h5 h3).mp h2
    exact ⟨h5, h6.1, h3, h6.2, h4⟩
/-! the order -/
theorem bk_bf_ir {D : hb_G} {e : Nat} : ¬ bk_bf D e e := by
  unfold bk_bf; omega
theorem bk_bf_as {D : hb_G} {e f : Nat} (h : bk_bf D e f) : ¬ bk_bf D f e := by
  unfold bk_bf at h ⊢; omega
theorem bk_bf_tr {D : hb_G} {e f g : Nat} (h : bk_bf D e f) (h2 : bk_bf D f g) : bk_bf D e g := by
  unfold bk_bf at h h2 ⊢; omega
theorem bk_bf_to {D : hb_G} {e f : Nat} (h : e ≠ f) : bk_bf D e f ∨ bk_bf D f e := by
  unfold bk_bf; omega
theorem bk_nd {D : hb_G} {xs : List Nat} (h : xs.Pairwise (bk_bf D)) : xs.Nodup := h.imp (fun h9 e => by subst e; exact bk_bf_ir h9)
theorem bk_ndr {l : List Nat} (h : l.Nodup) : l.reverse.Nodup := (List.reverse_perm l).nodup_iff.mpr h
theorem bk_sp {D : hb_G} {a b : List Nat} {e : Nat} (h : (a ++ e :: b).Pairwise (bk_bf D)) : (∀ f ∈ a, bk_bf D f e) ∧ ∀ f ∈ b, bk_bf D e f := by
  have h1 := List.pairwise_append.mp h
  exact ⟨fun f hf => h1.2.2 f hf e List.mem_cons_self, fun f hf => (List.pairwise_cons.mp h1.2.1).1 f hf⟩
theorem bk_bf_p {D : hb_G} {e f : Nat} (h : bk_bf D e f) : D 66 e ≤ D 66 f := by
  unfold bk_bf at h; omega
theorem bk_rk_m {D : hb_G} {e : Nat} (h : D 63 e = 1 ∨ D 63 e = 2) : bk_rk D e = 0 := if_pos h
theorem bk_rk_f {D : hb_G} {e : Nat} (h : D 63 e = 0) : bk_rk D e = 1 := by
  unfold bk_rk; rw [if_neg (by omega), if_pos h]
theorem bk_rk_o {D : hb_G} {e : Nat} (h : 3 ≤ D 63 e) : bk_rk D e = 2 := by
  unfold bk_rk; rw [if_neg (by omega), if_neg (by omega)]
/-- those of a lower rank before e: by their point -/
theorem bk_lo {D : hb_G} {a b : List Nat} {e f : Nat} (h : (a ++ e :: b).Pairwise (bk_bf D)) (hr : bk_rk D f < bk_rk D e) (hf : f ∈ a ++ e :: b) : f ∈ a ↔ D 66 f ≤ D 66 e := by
  obtain ⟨h1, h2⟩ := bk_sp h
  constructor
  · intro h9; exact bk_bf_p (h1 f h9)
  · intro h9
    rcases List.mem_append.mp hf with h3 | h3
    · exact h3
    · rcases List.mem_cons.mp h3 with h4 | h4
      · subst h4; omega
      · have := h2 f h4
        unfold bk_bf at this
        omega
/-- a doing reads the flights up to its point -/
theorem bk_smE {D : hb_G} {u t : Int} {n : Nat} {a b : List Nat} {e : Nat} (h : (a ++ e :: b).Pairwise (bk_bf D)) (hm : ∀ f, f ∈ a ++ e :: b ↔ f < n ∧ D 64 f ≠ 0) (he : 3 ≤ D 63 e) : hb_sm D t u (D 66 e) n = bk_fl D u t a.reverse := by
  have hnd := bk_nd h
  refine bk_sm (bk_ndr (List.nodup_append.mp hnd).1) (fun f hf h0 => ?_) (fun f hf => ?_)
  · rw [List.mem_reverse]
    constructor
    · intro h9
      exact ⟨((hm f).mp (List.mem_append_left _ h9)).2, bk_bf_p ((bk_sp h).1 f h9)⟩
    · intro h9
      exact (bk_lo h (by rw [bk_rk_f h0, bk_rk_o he]; decide) ((hm f).mpr ⟨hf, h9.1⟩)).mpr h9.2
  · exact ((hm f).mp (List.mem_append_left _ (List.mem_reverse.mp hf))).1
/-- a prefix by a point -/
def bk_pf (D : hb_G) (pt : Int) (a b : List Nat) : Prop := (∀ f ∈ a, D 66 f ≤ pt) ∧ ∀ f ∈ b, pt < D 66 f
theorem bk_smP {D : hb_G} {u t pt : Int} {n : Nat} {a b : List Nat} (h : (a ++ b).Pairwise (bk_bf D)) (hm : ∀ f, f ∈ a ++ b ↔ f < n ∧ D 64 f ≠ 0) (hp : bk_pf D pt a b) : hb_sm D t u pt n = bk_fl D u t a.reverse := by
  have hnd := bk_nd h
  refine bk_sm (bk_ndr (List.nodup_append.mp hnd).1) (fun f hf h0 => ?_) (fun f hf => ?_)
  · rw [List.mem_reverse]
    constructor
    · intro h9
      exact ⟨((hm f).mp (List.mem_append_left _ h9)).2, hp.1 f h9⟩
    · intro h9
      rcases List.mem_append.mp ((hm f).mpr ⟨hf, h9.1⟩) with h3 | h3
      · exact h3
      · have := hp.2 f h3; omega
  · exact ((hm f).mp (List.mem_append_left _ (List.mem_reverse.mp hf))).1
theorem bk_pf_ex {D : hb_G} {pt : Int} : ∀ {xs : List Nat}, xs.Pairwise (bk_bf D) → ∃ a b, xs = a ++ b ∧ bk_pf D pt a b
  | [], _ => ⟨[], [], rfl, ⟨fun _ h => (nomatch h), fun _ h => (nomatch h)⟩⟩
  | e :: xs, h => by
    have h1 := List.pairwise_cons.mp h
    by_cases e1 : D 66 e ≤ pt
    · obtain ⟨a, b, h2, h3⟩ := bk_pf_ex h1.2
      exact ⟨e :: a, b, by rw [h2]; rfl, fun f hf => (List.mem_cons.mp hf).elim (fun h => by rw [h]; exact e1) (h3.1 f), h3.2⟩
    · exact ⟨[], e :: xs, rfl, fun _ h => (nomatch h), fun f hf => (List.mem_cons.mp hf).elim (fun h => by rw [h]; omega) (fun h => by have := bk_bf_p (h1.1 f h); omega)⟩
theorem bk_pf_un {D : hb_G} {pt : Int} : ∀ {a b c d : List Nat}, a ++ b = c ++ d → bk_pf D pt a b → bk_pf D pt c d → a = c ∧ b = d
  | [], b, [], d, h, h1, h2 => ⟨rfl, h⟩
  | [], b, e :: c, d, h, h1, h2 => by
    have h : b = e :: (c ++ d) := h
    have h3 := h1.2 e (by rw [h]; exact List.mem_cons_self)
    have h4 := h2.1 e List.mem_cons_self
    omega
  | e :: a, b, [], d, h, h1, h2 => by
    have h : e :: (a ++ b) = d := h
    have h3 := h2.2 e (by rw [← h]; exact List.mem_cons_self)
    have h4 := h1.1 e List.mem_cons_self
    omega
  | e :: a, b, f :: c, d, h, h1, h2 => by
    have h5 := List.cons.inj h
    obtain ⟨h6, h7⟩ := bk_pf_un h5.2 ⟨fun f hf => h1.1 f (List.mem_cons_of_mem _ hf), h1.2⟩ ⟨fun f hf => h2.1 f (List.mem_cons_of_mem _ hf), h2.2⟩
    exact ⟨by rw [h5.1, h6], h7⟩
theorem bk_pf_f {D : hb_G} {pt : Int} {a b : List Nat} {c : Nat → Bool} (h : bk_pf D pt a b) : bk_pf D pt (a.filter c) (b.filter c) := ⟨fun f hf => h.1 f ((List.mem_filter.mp hf).1), fun f hf => h.2 f ((List.mem_filter.mp hf).1)⟩
/-- the moves before a flight: by its point -/
theorem bk_mvF {D : hb_G} {a b c d : List Nat} {e : Nat} (h : (a ++ e :: b).Pairwise (bk_bf D)) (he : D 63 e = 0) (hcd : (a ++ e :: b).filter (bk_mb D) = c ++ d) (hp : bk_pf D (D 66 e) c d) : a.filter (bk_mb D) = c := by
  have hne : ¬ bk_mb D e = true := by simp [bk_mb, he]
  rw [List.filter_append, List.filter_cons_of_neg hne] at hcd
  refine (bk_pf_un hcd ⟨fun f hf => ?_, fun f hf => ?_⟩ hp).1
  · exact bk_bf_p ((bk_sp h).1 f ((List.mem_filter.mp hf).1))
  · have h1 := (bk_sp h).2 f ((List.mem_filter.mp hf).1)
    have h2 : bk_mb D f = true := (List.mem_filter.mp hf).2
    have h3 : bk_rk D f = 0 := bk_rk_m (by simpa [bk_mb] using h2)
    have h4 := bk_rk_f he
    unfold bk_bf at h1
    omega
theorem bk_TRF {D : hb_G} {a b c d : List Nat} {e : Nat} (h : (a ++ e :: b).Pairwise (bk_bf D)) (he : D 63 e = 0) (hcd : (a ++ e :: b).filter (bk_mb D) = c ++ d) (hp : bk_pf D (D 66 e) c d) : bk_TR D c.reverse = bk_TR D a.reverse := by
  rw [← bk_mvF h he hcd hp, ← List.filter_reverse, bk_TR_f]
theorem bk_TRP {D : hb_G} {a b c d : List Nat} {pt : Int} (hcd : (a ++ b).filter (bk_mb D) = c ++ d) (hp : bk_pf D pt c d) (hq : bk_pf D pt a b) : bk_TR D c.reverse = bk_TR D a.reverse := by
  rw [List.filter_append] at hcd
  rw [← (bk_pf_un hcd (bk_pf_f hq) hp).1, ← List.filter_reverse, bk_TR_f]
/-! the next of a thing's doings and concessions -/
theorem bk_nx {D : hb_G} {t k pt lp le : Int} : ∀ (n : Nat), (hb_nx D t k pt lp le n = -1 ∧ ∀ e : Nat, e < n → ¬ (hb_of D t k pt e ∧ hb_af (D 66 e) e lp le)) ∨ (∃ m : Nat, hb_nx D t k pt lp le n = m ∧ m < n ∧ (hb_of D t k pt m ∧ hb_af (D 66 m) m lp le) ∧ ∀ e : Nat, e < n → hb_of D t k pt e ∧ hb_af (D 66 e) e lp le → e = m ∨ hb_af (D 66 e) e (D 66 m) m)
  | 0 => Or.inl ⟨rfl, fun e h => absurd h (Nat.not_lt_zero _)⟩
  | n + 1 => by
    have ih := bk_nx (D := D) (t := t) (k := k) (pt := pt) (lp := lp) (le := le) n
    unfold hb_nx
    by_cases h : (hb_of D t k pt n ∧ hb_af (D 66 n) n lp le) ∧ (hb_nx D t k pt lp le n = -1 ∨ hb_af (D 66 (hb_nx D t k pt lp le n)) (hb_nx D t k pt lp le n) (D 66 n) n)
    · rw [if_pos h]
      refine Or.inr ⟨n, rfl, by omega, h.1, fun e he hc => ?_⟩
      rcases Nat.lt_or_ge e n with h1 | h1
      · rcases ih with ⟨h2, h3⟩ | ⟨m, h2, h3, h4, h5⟩
        · exact absurd hc (h3 e h1)
        · rcases h.2 with h6 | h6
          · omega
          · rw [h2] at h6
            rcases h5 e h1 hc with h7 | h7
            · subst h7; exact Or.inr h6
            · refine Or.inr ?_
              unfold hb_af at h6 h7 ⊢
              omega
      · exact Or.inl (by omega)
    · rw [if_neg h]
      rcases ih with ⟨h2, h3⟩ | ⟨m, h2, h3, h4, h5⟩
      · refine Or.inl ⟨h2, fun e he hc => ?_⟩
        rcases Nat.lt_or_ge e n with h1 | h1
        · exact h3 e h1 hc
        · have : e = n := by omega
          subst this
          exact h ⟨hc, Or.inl h2⟩
      · refine Or.inr ⟨m, h2, by omega, h4, fun e he hc => ?_⟩
        rcases Nat.lt_or_ge e n with h1 | h1
        · exact h5 e h1 hc
        · have : e = n := by omega
          subst this
          refine Or.inr ?_
          have h6 : ¬ hb_af (D 66 (hb_nx D t k pt lp le e)) (hb_nx D t k pt lp le e) (D 66 e) e := fun h9 => h ⟨hc, Or.inr h9⟩
          rw [h2] at h6
          unfold hb_af at h6 ⊢
          omega
/-! bounds -/
def bk_sb (D : hb_G) : Prop := (∀ i, 0 ≤ i ∧ i < 48 → -1 ≤ D 48 i ∧ D 48 i < 12) ∧ (∀ k, 0 ≤ k ∧ k < 12 → (0 ≤ D 49 k ∧ D 49 k ≤ 1000000) ∧ (0 ≤ D 50 k ∧ D 50 k ≤ 1000000)) ∧ (∀ t, 0 ≤ t ∧ t < 40 → (-1 ≤ D 51 t ∧ D 51 t < 12) ∧ (0 ≤ D 52 t ∧ D 52 t ≤ 1000000) ∧ (0 ≤ D 53 t ∧ D 53 t ≤ 1000000) ∧ (0 ≤ D 54 t ∧ D 54 t ≤ 30000)) ∧ (∀ k, 0 ≤ k ∧ k < 16 → (-1 ≤ D 55 k ∧ D 55 k < 12) ∧ (∀ u, 0 ≤ u ∧ u < 3 → 0 ≤ D 56 (3 * k + u) ∧ D 56 (3 * k + u) ≤ 100000) ∧ (0 ≤ D 57 k ∧ D 57 k ≤ 500)) ∧ (∀ o, 0 ≤ o ∧ o < 8 → (-1 ≤ D 58 o ∧ D 58 o < 12) ∧ (D 58 o ≠ -1 → ((0 ≤ D 61 o ∧ D 61 o < 16) ∧ D 55 (D 61 o) ≠ -1) ∧ (-1 ≤ D 62 o ∧ D 62 o < 16)))
theorem bk_fl_b {D : hb_G} (hs : bk_sb D) {u t : Int} (ht : 0 ≤ t ∧ t < 40) : ∀ {r : List Nat}, (∀ e ∈ r, bk_vd D e) → 0 ≤ bk_fl D u t r ∧ bk_fl D u t r ≤ 1000000 + 100000 * r.length
  | [], _ => by
    have := hs.2.2.1 t ht
    unfold bk_fl
    split <;> simp <;> omega
  | e :: r, hv => by
    have ih := bk_fl_b hs (u := u) ht (fun f hf => hv f (List.mem_cons_of_mem _ hf))
    have h5 := (hv e List.mem_cons_self).2.2.2.2.1
    unfold bk_fl
    rw [List.length_cons]
    split
    · rename_i h
      have := h5 h.1
      split <;> omega
    · omega
theorem bk_ct_b {D : hb_G} (hs : bk_sb D) {u t : Int} (ht : 0 ≤ t ∧ t < 40) {e : Nat} (he : bk_vd D e) {r : List Nat} (hv : ∀ e ∈ r, bk_vd D e) : -30000 ≤ bk_ct D u t e r ∧ bk_ct D u t e r ≤ 1000000 + 100000 * r.length := by
  have h1 := bk_fl_b hs (u := u) ht hv
  have h2 := hs.2.2.1 t ht
  have h3 := he.2.2.2.1
  unfold bk_ct
  split <;> omega
theorem bk_aj_b {D : hb_G} {e : Nat} (he : bk_vd D e) (h4 : D 63 e = 4) {u : Int} : 0 ≤ hb_aj D e u ∧ hb_aj D e u ≤ 10001 := by
  have h := he.2.2.2.2.2.2.2.1 h4
  unfold hb_aj
  split
  · omega
  · split <;> omega
theorem bk_DU_b {D : hb_G} (hs : bk_sb D) {u t k : Int} (hu : 0 ≤ u ∧ u < 3) (ht : 0 ≤ t ∧ t < 40) (hk : 0 ≤ k ∧ k < 16) : ∀ {r : List Nat}, (∀ e ∈ r, bk_vd D e) → -30000 ≤ bk_DU D u t k r ∧ bk_DU D u t k r ≤ 1200000 + 200000 * r.length
  | [], _ => by
    have h1 := hs.2.2.1 t ht
    have h2 := (hs.2.2.2.1 k hk).2.1 u hu
    unfold bk_DU
    simp only [List.length_nil]
    split
    · omega
    · split <;> omega
  | e :: r, hv => by
    have hr := fun f hf => hv f (List.mem_cons_of_mem e hf)
    have ih := bk_DU_b hs hu ht hk hr
    have hc := bk_ct_b hs (u := u) ht (hv e List.mem_cons_self) hr
    have h2 := (hs.2.2.2.1 k hk).2.1 u hu
    unfold bk_DU
    rw [List.length_cons]
    split
    · unfold hb_d1; split <;> omega
    · split
      · rename_i h
        have := bk_aj_b (hv e List.mem_cons_self) h.1.1 (u := u)
        omega
      · omega
/-! the reference's due point -/
def bk_of (D : hb_G) (t k : Int) (e : Nat) : Prop := (D 63 e = 3 ∨ D 63 e = 4) ∧ D 65 e = t ∧ D 67 e = k
theorem bk_du_n {D : hb_G} {u t k : Int} {e : Nat} {r : List Nat} (h : ¬ bk_of D t k e) : bk_DU D u t k (e :: r) = bk_DU D u t k r ∧ bk_cn D t k (e :: r) = bk_cn D t k r := by
  have h3 : ¬ (D 63 e = 3 ∧ D 65 e = t ∧ D 67 e = k) := fun h9 => h ⟨Or.inl h9.1, h9.2⟩
  have h4 : ¬ (D 63 e = 4 ∧ D 65 e = t ∧ D 67 e = k) := fun h9 => h ⟨Or.inr h9.1, h9.2⟩
  constructor
  · conv => lhs; unfold bk_DU
    rw [if_neg h3, if_neg (fun h9 => h4 h9.1)]
  · conv => lhs; unfold bk_cn
    rw [if_neg h4, if_neg h3]
def bk_seq (D : hb_G) (t k u pt : Int) (n m : Nat) (DD CN LP LE : Nat → Int) : Prop :=
  DD 0 = bk_DU D u t k [] ∧ (CN 0 = 0 ∧ LP 0 = -1 ∧ LE 0 = -1) ∧ (∀ j, j ≤ m → (CN j = 0 ∨ CN j = 1) ∧ hb_in (LP j) ∧ hb_in (LE j) ∧ (-1000000000 ≤ DD j ∧ DD j ≤ 1000000000)) ∧
  ∀ j, j < m → hb_nx D t k pt (LP j) (LE j) n ≠ -1 ∧ LP (j + 1) = D 66 (hb_nx D t k pt (LP j) (LE j) n) ∧ LE (j + 1) = hb_nx D t k pt (LP j) (LE j) n ∧ 0 ≤ LP (j + 1) ∧ 0 ≤ D 69 (LE (j + 1)) ∧
    (-1000000000 ≤ hb_cj D t u (LP (j + 1)) n ∧ hb_cj D t u (LP (j + 1)) n ≤ 1000000000) ∧
    ((D 63 (LE (j + 1)) = 4 ∧ CN (j + 1) = 1 ∧ DD (j + 1) = DD j + (if CN j = 0 then hb_aj D (LE (j + 1)) u else 0)) ∨
     (D 63 (LE (j + 1)) ≠ 4 ∧ CN (j + 1) = 0 ∧ DD (j + 1) = (if DD j < hb_cj D t u (LP (j + 1)) n ∧ hb_cj D t u (LP (j + 1)) n - DD j ≤ D 56 (3 * k + u) * D 57 k / 1000 then DD j else hb_cj D t u (LP (j + 1)) n) + D 56 (3 * k + u)))
theorem bk_due {D : hb_G} (hs : bk_sb D) {u t k pt : Int} {n : Nat} (hn : n ≤ 200) (hu : 0 ≤ u ∧ u < 3) (ht : 0 ≤ t ∧ t < 40) (hk : 0 ≤ k ∧ k < 16) (h69 : ∀ e : Nat, e < n → 0 ≤ D 69 e) {b : List Nat} : ∀ (a2 a1 : List Nat), (a1 ++ a2 ++ b).Pairwise (bk_bf D) → (∀ f, f ∈ a1 ++ a2 ++ b ↔ f < n ∧ D 64 f ≠ 0) → (∀ e ∈ a1 ++ a2 ++ b, bk_vd D e) → (a1 ++ a2 ++ b).length ≤ 200 → bk_pf D pt (a1 ++ a2) b →
    (∃ (m : Nat) (DD CN LP LE : Nat → Int), bk_seq D t k u pt n m DD CN LP LE ∧ DD m = bk_DU D u t k a1.reverse ∧ CN m = bk_cn D t k a1.reverse ∧ (∀ f ∈ a1, bk_of D t k f → ¬ hb_af (D 66 f) f (LP m) (LE m)) ∧ (∀ f ∈ a2 ++ b, bk_of D t k f → hb_af (D 66 f) f (LP m) (LE m))) →
    ∃ (m : Nat) (DD CN LP LE : Nat → Int), bk_seq D t k u pt n m DD CN LP LE ∧ DD m = bk_DU D u t k (a1 ++ a2).reverse ∧ hb_nx D t k pt (LP m) (LE m) n = -1
  | [], a1, hpw, hm, hv, hl, hp, hq => by
    obtain ⟨m, DD, CN, LP, LE, h1, h2, h3, h4, h5⟩ := hq
    refine ⟨m, DD, CN, LP, LE, h1, by rw [List.append_nil]; exact h2, ?_⟩
    rcases bk_nx (D := D) (t := t) (k := k) (pt := pt) (lp := LP m) (le := LE m) n with h6 | ⟨q, h6, h7, h8, -⟩
    · exact h6.1
    · exfalso
      have h9 := (hm q).mpr ⟨h7, h8.1.1⟩
      rw [List.append_nil] at h9 hp
      rcases List.mem_append.mp h9 with h10 | h10
      · exact h4 q h10 ⟨h8.1.2.1, h8.1.2.2.1, h8.1.2.2.2.1⟩ h8.2
      · have := hp.2 q h10
        have := h8.1.2.2.2.2
        omega
  | e :: a2, a1, hpw, hm, hv, hl, hp, hq => by
    have hre : a1 ++ e :: a2 = (a1 ++ [e]) ++ a2 := by simp
    have hre2 : a1 ++ e :: a2 ++ b = a1 ++ e :: (a2 ++ b) := by simp
    have hme : e ∈ a1 ++ e :: a2 ++ b := by simp
    have hsp : (a1 ++ e :: (a2 ++ b)).Pairwise (bk_bf D) := by rw [← hre2]; exact hpw
    have hme2 : ∀ f, f ∈ a1 ++ e :: (a2 ++ b) ↔ f < n ∧ D 64 f ≠ 0 := by rw [← hre2]; exact hm
    obtain ⟨sp1, sp2⟩ := bk_sp hsp
    have hve := hv e hme
    have hen := (hm e).mp hme
    have hv1 : ∀ f ∈ a1.reverse, bk_vd D f := fun f hf => hv f (by rw [hre2]; exact List.mem_append_left _ (List.mem_reverse.mp hf))
    obtain ⟨m, DD, CN, LP, LE, h1, h2, h3, h4, h5⟩ := hq
    rw [hre] at hpw hm hv hl hp ⊢
    refine bk_due hs hn hu ht hk h69 a2 (a1 ++ [e]) hpw hm hv hl hp ?_
    have hrev : (a1 ++ [e]).reverse = e :: a1.reverse := by simp
    rw [hrev]
    by_cases ho : bk_of D t k e
    · have hpe : D 66 e ≤ pt := hp.1 e (by simp)
      have hoe : hb_of D t k pt e := ⟨hen.2, ho.1, ho.2.1, ho.2.2, hpe⟩
      have hae := h5 e (by simp) ho
      have hrk : bk_rk D e = 2 := bk_rk_o (by rcases ho.1 with h | h <;> omega)
      have hnx : hb_nx D t k pt (LP m) (LE m) n = e := by
        rcases bk_nx (D := D) (t := t) (k := k) (pt := pt) (lp := LP m) (le := LE m) n with h6 | ⟨q, h6, h7, h8, h9⟩
        · exact absurd ⟨hoe, hae⟩ (h6.2 e hen.1)
        · have hqo : bk_of D t k q := ⟨h8.1.2.1, h8.1.2.2.1, h8.1.2.2.2.1⟩
          have hqm := (hme2 q).mpr ⟨h7, h8.1.1⟩
          rcases List.mem_append.mp hqm with h10 | h10
          · exact absurd h8.2 (h4 q h10 hqo)
          · rcases List.mem_cons.mp h10 with h11 | h11
            · rw [h6, h11]
            · have h12 := sp2 q h11
              have hrq : bk_rk D q = 2 := bk_rk_o (by rcases hqo.1 with h | h <;> omega)
              rcases h9 e hen.1 ⟨hoe, hae⟩ with h13 | h13
              · rw [h6, h13]
              · exfalso
                unfold bk_bf at h12
                unfold hb_af at h13
                omega
      have hcj : hb_cj D t u (D 66 e) n = bk_ct D u t e a1.reverse := by
        unfold hb_cj bk_ct
        split
        · rfl
        · exact bk_smE hsp hme2 (by rcases ho.1 with h | h <;> omega)
      have hcb := bk_ct_b hs (u := u) ht hve hv1
      have hdb := bk_DU_b hs hu ht hk (r := e :: a1.reverse) (fun f hf => (List.mem_cons.mp hf).elim (fun h => h ▸ hve) (hv1 f))
      have hlen : a1.length ≤ 199 := by
        simp only [List.length_append, List.length_cons, List.length_nil] at hl
        omega
      simp only [List.length_cons, List.length_reverse] at hdb hcb
      let X : (Nat → Int) → Int → Nat → Int := fun f v j => if j ≤ m then f j else v
      have X1 : ∀ f v j, j ≤ m → X f v j = f j := fun f v j h => if_pos h
      have X2 : ∀ f v, X f v (m + 1) = v := fun f v => if_neg (by omega)
      refine ⟨m + 1, X DD (bk_DU D u t k (e :: a1.reverse)), X CN (bk_cn D t k (e :: a1.reverse)), X LP (D 66 e), X LE e, ⟨?_, ?_, ?_, ?_⟩, X2 _ _, X2 _ _, ?_, ?_⟩
      · rw [X1 _ _ _ (Nat.zero_le _)]; exact h1.1
      · rw [X1 _ _ _ (Nat.zero_le _), X1 _ _ _ (Nat.zero_le _), X1 _ _ _ (Nat.zero_le _)]; exact h1.2.1
      · intro j hj
        rcases Nat.lt_or_ge m j with h6 | h6
        · have : j = m + 1 := by omega
          subst this
          rw [X2, X2, X2, X2]
          refine ⟨bk_cn_01, ?_, ?_, by omega, by omega⟩
          · have := hve.2.2.2.1; constructor <;> omega
          · constructor <;> omega
        · rw [X1 _ _ _ h6, X1 _ _ _ h6, X1 _ _ _ h6, X1 _ _ _ h6]; exact h1.2.2.1 j h6
      · intro j hj
        rcases Nat.lt_or_ge j m with h6 | h6
        · rw [X1 LP _ j (by omega), X1 LE _ j (by omega), X1 CN _ j (by omega), X1 DD _ j (by omega), X1 LP _ (j + 1) (by omega), X1 LE _ (j + 1) (by omega), X1 CN _ (j + 1) (by omega), X1 DD _ (j + 1) (by omega)]
          exact h1.2.2.2 j h6
        · have : j = m := by omega
          subst this
          rw [X1 LP _ j (by omega), X1 LE _ j (by omega), X1 CN _ j (by omega), X1 DD _ j (by omega), X2, X2, X2, X2, hnx, hcj]
          refine ⟨by omega, rfl, rfl, hve.2.2.2.1.1, h69 e hen.1, by constructor <;> omega, ?_⟩
          by_cases e4 : D 63 e = 4
          · refine Or.inl ⟨e4, ?_, ?_⟩
            · conv => lhs; unfold bk_cn
              rw [if_pos ⟨e4, ho.2⟩]
            · conv => lhs; unfold bk_DU
              rw [if_neg (by omega), h2, h3]
              rcases bk_cn_01 (D := D) (t := t) (k := k) (r := a1.reverse) with h9 | h9
              · rw [if_pos ⟨⟨e4, ho.2⟩, h9⟩, if_pos h9]
              · rw [if_neg (fun h => by omega), if_neg (by omega)]; omega
          · have e3 : D 63 e = 3 := by rcases ho.1 with h | h <;> omega
            refine Or.inr ⟨e4, ?_, ?_⟩
            · conv => lhs; unfold bk_cn
              rw [if_neg (fun h => e4 h.1), if_pos ⟨e3, ho.2⟩]
            · conv => lhs; unfold bk_DU
              rw [if_pos ⟨e3, ho.2⟩, h2]
              unfold hb_d1
              congr 1
              by_cases h9 : bk_DU D u t k a1.reverse < bk_ct D u t e a1.reverse ∧ bk_ct D u t e a1.reverse - bk_DU D u t k a1.reverse ≤ D 56 (3 * k + u) * D 57 k / 1000
              · rw [if_pos h9, if_pos ⟨by omega, h9.2⟩]
              · rw [if_neg h9, if_neg (fun h => h9 ⟨by omega, h.2⟩)]
      · intro f hf hof
        rw [X2, X2]
        rcases List.mem_append.mp hf with h6 | h6
        · have h7 := sp1 f h6
          have hrf : bk_rk D f = 2 := bk_rk_o (by rcases hof.1 with h | h <;> omega)
          unfold bk_bf at h7
          unfold hb_af
          omega
        · rw [List.mem_singleton.mp h6]
          unfold hb_af
          omega
      · intro f hf hof
        rw [X2, X2]
        have h7 := sp2 f hf
        have hrf : bk_rk D f = 2 := bk_rk_o (by rcases hof.1 with h | h <;> omega)
        unfold bk_bf at h7
        unfold hb_af
        omega
    · obtain ⟨d1, d2⟩ := bk_du_n (u := u) (r := a1.reverse) ho
      rw [d1, d2]
      refine ⟨m, DD, CN, LP, LE, h1, h2, h3, fun f hf hof => ?_, fun f hf hof => h5 f (List.mem_cons_of_mem _ hf) hof⟩
      rcases List.mem_append.mp hf with h6 | h6
      · exact h4 f h6 hof
      · rw [List.mem_singleton.mp h6] at hof; exact absurd hof ho
theorem bk_due0 {D : hb_G} (hs : bk_sb D) {u t k pt : Int} {n : Nat} (hn : n ≤ 200) (hu : 0 ≤ u ∧ u < 3) (ht : 0 ≤ t ∧ t < 40) (hk : 0 ≤ k ∧ k < 16) (h69 : ∀ e : Nat, e < n → 0 ≤ D 69 e) {a b : List Nat} (hpw : (a ++ b).Pairwise (bk_bf D)) (hm : ∀ f, f ∈ a ++ b ↔ f < n ∧ D 64 f ≠ 0) (hv : ∀ e ∈ a ++ b, bk_vd D e) (hl : (a ++ b).length ≤ 200) (hp : bk_pf D pt a b) :
    ∃ (m : Nat) (DD CN LP LE : Nat → Int), bk_seq D t k u pt n m DD CN LP LE ∧ DD m = bk_DU D u t k a.reverse ∧ hb_nx D t k pt (LP m) (LE m) n = -1 := by
  refine bk_due hs hn hu ht hk h69 a [] hpw hm hv hl hp ⟨0, fun _ => bk_DU D u t k [], fun _ => 0, fun _ => -1, fun _ => -1, ⟨rfl, ⟨rfl, rfl, rfl⟩, fun j hj => ⟨Or.inl rfl, (by show hb_in (-1); decide), (by show hb_in (-1); decide), ?_⟩, fun j hj => absurd hj (Nat.not_lt_zero _)⟩, rfl, rfl, fun f hf => (nomatch hf), fun f hf ho => ?_⟩
  · have := bk_DU_b hs hu ht hk (r := []) (fun f hf => (nomatch hf))
    simp only [List.length_nil] at this
    show -1000000000 ≤ bk_DU D u t k [] ∧ bk_DU D u t k [] ≤ 1000000000
    constructor <;> omega
  · have := (hv f hf).2.2.2.1
    show hb_af _ _ (-1) (-1)
    unfold hb_af
    omega
