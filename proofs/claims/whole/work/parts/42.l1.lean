theorem c_thrown {l : Launch} {G : hb_G} {F : hb_F} {na : Nat} : hb_M l yX9_thrown cX9_thrown 1 (some .int) 0 0 0 [hb_r 47] (hb_w G F na) (77 + na) (.inl (some (hb_i (G 47 0)))) (hb_w G F na) (77 + na) := by
  refine hb_M_in rfl rfl (by decide) rfl (Nat.le_of_ble_eq_true rfl) ?_
  intro E z0 σ0
  refine aw_ald0 dX9_thrown_0 ?_
  refine aw_getf dX9_thrown_1 hbf_X9_95 rfl rfl ?_
  exact aw_iret dX9_thrown_4 rfl rfl rfl rfl (by decide) (by decide)
theorem aw_topl {l : Launch} {own : String} {cc : ByteArray} {nL : Nat} {ret : Option FieldType} {nm : String} {tb : List ExceptionTableEntry} {E : hb_E} {z0 : Heap} {R : Room} {σ0 : Nat → Nat} {N0 : Nat} {o : hb_O} {h' : hb_H} {N' : Nat} {kc ks pc : Nat} {ls st : List hb_V} {h : hb_H} {N : Nat} {x c9 : Int} (e9 : x = c9) (k : hb_W l own cc nL ret nm tb E z0 R σ0 N0 o h' N' kc ks pc ls (hb_l c9 :: st) h N) : hb_W l own cc nL ret nm tb E z0 R σ0 N0 o h' N' kc ks pc ls (hb_l x :: st) h N := by rw [e9]; exact k
section HBL
variable {l : Launch} {own : String} {cc : ByteArray} {nL : Nat} {ret : Option FieldType} {nm : String} {tb : List ExceptionTableEntry} {E : hb_E} {z0 : Heap} {R : Room} {σ0 : Nat → Nat} {N0 : Nat} {o : hb_O} {h' : hb_H} {N' : Nat} {kc ks pc : Nat} {ls st : List hb_V} {h : hb_H} {N : Nat}
/-- the script: an array of ints that stands from the start -/
def hb_SC (E : hb_E) (z0 : Heap) (σ0 : Nat → Nat) (L : Nat) (f : Int → Int) : Prop := L ≤ 3072 ∧ (∀ i, hb_in (f i)) ∧ σ0 1000000 < z0.size ∧ ∃ scr : Cell, z0[σ0 1000000]? = some scr ∧ (∀ U : State, hb_K E U → U.isArrayOf scr .int) ∧ scr.vm ≠ .unknown ∧ scr.slots.size = L ∧ ∀ j : Nat, j < L → scr.slots[j]? = some (.int (Int32.ofInt (f j)))
theorem aw_sald {L : Nat} {f : Int → Int} {i : Int} (hd : decode cc pc = .ok (.iaload, 1)) (hS : hb_SC E z0 σ0 L f) (hN : N ≤ 1000000) (hi : 0 ≤ i ∧ i < L) (k : hb_W l own cc nL ret nm tb E z0 R σ0 N0 o h' N' kc ks (pc + 1) ls (hb_i (f i) :: st) h N) : hb_W l own cc nL ret nm tb E z0 R σ0 N0 o h' N' kc ks pc ls (hb_i i :: hb_r 1000000 :: st) h N := by
  intro p e s m args below meth c X σ H locs lr hR hex hlo hL
  obtain ⟨h3072, -, hlt, scr, h1, h2, h3, h4, h5⟩ := hS
  have hσ : σ 1000000 = σ0 1000000 := hex.2 _ (by omega)
  have hat : H[σ 1000000]? = some scr := by rw [hσ, hR.1.2 _ hlt]; exact h1
  refine W.iald X.1 X.2.1 (v := hb_cv σ (hb_i (f i))) hat (h2 _ X.2.2.2.2.2.1) h3 (by rw [h4]; exact hb_vin hi.1 hi.2 (by omega)) ?_ rfl rfl hd (k p e s m args below meth c X σ H locs lr hR hex hlo hL)
  rw [hb_cla hi.1 (by omega), h5 _ (by omega), Int.toNat_of_nonneg hi.1]
  rfl
theorem aw_slen {L : Nat} {f : Int → Int} (hd : decode cc pc = .ok (.arraylength, 1)) (hS : hb_SC E z0 σ0 L f) (hN : N ≤ 1000000) (k : hb_W l own cc nL ret nm tb E z0 R σ0 N0 o h' N' kc ks (pc + 1) ls (hb_i L :: st) h N) : hb_W l own cc nL ret nm tb E z0 R σ0 N0 o h' N' kc ks pc ls (hb_r 1000000 :: st) h N := by
  intro p e s m args below meth c X σ H locs lr hR hex hlo hL
  obtain ⟨h3072, -, hlt, scr, h1, h2, h3, h4, h5⟩ := hS
  have hσ : σ 1000000 = σ0 1000000 := hex.2 _ (by omega)
  have hat : H[σ 1000000]? = some scr := by rw [hσ, hR.1.2 _ hlt]; exact h1
  exact W.alen X.1 X.2.1 (n := Int32.ofInt L) hat (h2 _ X.2.2.2.2.2.1) (by rw [h4]; exact hb_natI L) rfl rfl hd (k p e s m args below meth c X σ H locs lr hR hex hlo hL)
end HBL
theorem hb_ro {d ny : Nat} (h : d ≤ 9) (hn : ny ≤ 20) : d + 1 ≤ room_1.frames ∧ 8 + (ny + 11) + 36 * d ≤ room_1.locals := by
  show d + 1 ≤ 11 ∧ 8 + (ny + 11) + 36 * d ≤ 402
  omega
abbrev hb_I : Type := hb_G → hb_F → Nat → Prop
def hb_stQ (l : Launch) (I : hb_I) (y1 : MethodName) (c1 : ByteArray) (n1 : Nat) (r1 : Option FieldType) (y2 : MethodName) (c2 : ByteArray) (n2 : Nat) (r2 : Option FieldType) (as : List hb_V) : Prop :=
  ∀ G F na, I G F na → ∃ (v : Int) (G1 G2 : hb_G) (d1 d2 : Nat), hb_in v ∧ d1 ≤ 9 ∧ d2 ≤ 9 ∧ hb_M l y1 c1 n1 r1 d1 0 0 (hb_r 0 :: as) (hb_w G F na) (77 + na) (.inl (some (hb_i v))) (hb_w G1 F na) (77 + na) ∧ hb_M l y2 c2 n2 r2 d2 0 0 (hb_r 47 :: as) (hb_w G1 F na) (77 + na) (.inl (some (hb_i v))) (hb_w G2 F na) (77 + na) ∧ I G2 F na
def hb_stE (l : Launch) (I : hb_I) (y1 : MethodName) (c1 : ByteArray) (n1 : Nat) (hh : List (Nat × Nat × Nat × Nat)) (y2 : MethodName) (c2 : ByteArray) (n2 : Nat) (as : List hb_V) : Prop :=
  ∀ G F na, I G F na → ∃ (k b : Int) (G1 G2 : hb_G) (F1 : hb_F) (na1 mc ms d2 : Nat), hb_in k ∧ hb_in b ∧ mc ≤ 2 ∧ ms ≤ 15 ∧ na ≤ na1 ∧ na1 ≤ na + 1 ∧ d2 ≤ 9 ∧ hb_MH l y1 c1 n1 (some .int) hh 8 mc ms (hb_r 0 :: (as ++ [hb_r 76])) (hb_w G F na) (77 + na) (.inl (some (hb_i k))) (hb_w G1 F1 na1) (77 + na1) ∧ hb_M l y2 c2 n2 (some .int) d2 0 0 (hb_r 47 :: as) (hb_w G1 F1 na1) (77 + na1) (.inl (some (hb_i b))) (hb_w G2 F1 na1) (77 + na1) ∧ G2 47 0 = k ∧ (k = 0 → G2 76 0 = b) ∧ I G2 F1 na1
def hb_stS (l : Launch) (I : hb_I) (y1 : MethodName) (c1 : ByteArray) (n1 : Nat) (hh : List (Nat × Nat × Nat × Nat)) (y2 : MethodName) (c2 : ByteArray) (n2 : Nat) (as : List hb_V) : Prop :=
  ∀ G F na, I G F na → ∃ (k : Int) (G1 G2 : hb_G) (F1 : hb_F) (na1 mc ms d2 : Nat), hb_in k ∧ mc ≤ 2 ∧ ms ≤ 15 ∧ na ≤ na1 ∧ na1 ≤ na + 1 ∧ d2 ≤ 9 ∧ hb_MH l y1 c1 n1 (some .int) hh 8 mc ms (hb_r 0 :: as) (hb_w G F na) (77 + na) (.inl (some (hb_i k))) (hb_w G1 F1 na1) (77 + na1) ∧ hb_M l y2 c2 n2 none d2 0 0 (hb_r 47 :: as) (hb_w G1 F1 na1) (77 + na1) (.inl none) (hb_w G2 F1 na1) (77 + na1) ∧ G2 47 0 = k ∧ I G2 F1 na1
abbrev hb_LW (l : Launch) (nm : String) (tb : List ExceptionTableEntry) (E : hb_E) (z0 : Heap) (σ0 : Nat → Nat) (h' : hb_H) (N' : Nat) (kc ks pc : Nat) (ls st : List hb_V) (h : hb_H) (N : Nat) : Prop := hb_W l RL cL_law 7 (some .boolean) nm tb E z0 room_1 σ0 0 (.inl (some (hb_i 1))) h' N' kc ks pc ls st h N
abbrev hb_l5 (i : Int) : List hb_V := [hb_r 1000000, hb_r 0, hb_r 47, hb_r 76, hb_i i]
theorem law_place {l : Launch} {I : hb_I} {nm : String} {tb : List ExceptionTableEntry} {E : hb_E} {z0 : Heap} {σ0 : Nat → Nat} {G : hb_G} {F : hb_F} {na kc ks L : Nat} {f : Int → Int} {i : Int} (hS : hb_SC E z0 σ0 L f) (hi : 0 ≤ i ∧ i + 6 ≤ L) (hna : na ≤ 900000) (hkc : kc + 2 ≤ room_1.cells) (hks : ks + 15 ≤ room_1.slots) (hI : I G F na) (hq : hb_stQ l I yX8_place cX8_place 5 (some .boolean) yX9_place cX9_place 4 (some .boolean) [hb_i (f (i + 1)), hb_i (f (i + 2)), hb_i (f (i + 3))])
    (next : ∀ G2, I G2 F na → ∃ h' N', hb_LW l nm tb E z0 σ0 h' N' kc ks 1450 (hb_l5 i) [] (hb_w G2 F na) (77 + na)) : ∃ h' N', hb_LW l nm tb E z0 σ0 h' N' kc ks 140 (hb_l5 i) [] (hb_w G F na) (77 + na) := by
  obtain ⟨v, G1, G2, d1, d2, hv, hd1, hd2, h1, h2, hI2⟩ := hq G F na hI
  obtain ⟨h', N', k⟩ := next G2 hI2
  refine ⟨h', N', ?_⟩
  refine aw_ald1 dL_law_140 ?_
  refine aw_ald0 dL_law_141 ?_
  refine aw_ild4 dL_law_142 ?_
  refine aw_iconst dL_law_144 ?_
  refine aw_iadd dL_law_145 ?_
  refine aw_sald dL_law_146 hS (by omega) ⟨by omega, by omega⟩ ?_
  refine aw_ald0 dL_law_147 ?_
  refine aw_ild4 dL_law_148 ?_
  refine aw_iconst dL_law_150 ?_
  refine aw_iadd dL_law_151 ?_
  refine aw_sald dL_law_152 hS (by omega) ⟨by omega, by omega⟩ ?_
  refine aw_ald0 dL_law_153 ?_
  refine aw_ild4 dL_law_154 ?_
  refine aw_iconst dL_law_156 ?_
  refine aw_iadd dL_law_157 ?_
  refine aw_sald dL_law_158 hS (by omega) ⟨by omega, by omega⟩ ?_
  refine aw_V3v dL_law_159 h1 (by rfl) rfl hbY_X8_place hbm_L_43 hbi_X8_place hbe_X8_X8_place (Nat.le_of_ble_eq_true rfl) (hb_ro hd1 (by decide)) (by omega) (by omega) ?_
  refine aw_ald2 dL_law_162 ?_
  refine aw_ald0 dL_law_163 ?_
  refine aw_ild4 dL_law_164 ?_
  refine aw_iconst dL_law_166 ?_
  refine aw_iadd dL_law_167 ?_
  refine aw_sald dL_law_168 hS (by omega) ⟨by omega, by omega⟩ ?_
  refine aw_ald0 dL_law_169 ?_
  refine aw_ild4 dL_law_170 ?_
  refine aw_iconst dL_law_172 ?_
  refine aw_iadd dL_law_173 ?_
  refine aw_sald dL_law_174 hS (by omega) ⟨by omega, by omega⟩ ?_
  refine aw_ald0 dL_law_175 ?_
  refine aw_ild4 dL_law_176 ?_
  refine aw_iconst dL_law_178 ?_
  refine aw_iadd dL_law_179 ?_
  refine aw_sald dL_law_180 hS (by omega) ⟨by omega, by omega⟩ ?_
  refine aw_V3v dL_law_181 h2 (by rfl) rfl hbY_X9_place hbm_L_47 hbi_X9_place hbe_X9_X9_place (Nat.le_of_ble_eq_true rfl) (hb_ro hd2 (by decide)) (by omega) (by omega) ?_
  refine aw_icmp_eq dL_law_184 (tg := 1450) (by decide) hv hv (fun _ => ?_) (fun h9 => absurd rfl h9)
  exact k
theorem law_thing {l : Launch} {I : hb_I} {nm : String} {tb : List ExceptionTableEntry} {E : hb_E} {z0 : Heap} {σ0 : Nat → Nat} {G : hb_G} {F : hb_F} {na kc ks L : Nat} {f : Int → Int} {i : Int} (hS : hb_SC E z0 σ0 L f) (hi : 0 ≤ i ∧ i + 6 ≤ L) (hna : na ≤ 900000) (hkc : kc + 2 ≤ room_1.cells) (hks : ks + 15 ≤ room_1.slots) (hI : I G F na) (hq : hb_stQ l I yX8_thing cX8_thing 6 (some .boolean) yX9_thing cX9_thing 6 (some .boolean) [hb_i (f (i + 1)), hb_i (f (i + 2)), hb_i (f (i + 3)), hb_i (f (i + 4)), hb_i (f (i + 5))])
    (next : ∀ G2, I G2 F na → ∃ h' N', hb_LW l nm tb E z0 σ0 h' N' kc ks 1450 (hb_l5 i) [] (hb_w G2 F na) (77 + na)) : ∃ h' N', hb_LW l nm tb E z0 σ0 h' N' kc ks 189 (hb_l5 i) [] (hb_w G F na) (77 + na) := by
  obtain ⟨v, G1, G2, d1, d2, hv, hd1, hd2, h1, h2, hI2⟩ := hq G F na hI
  obtain ⟨h', N', k⟩ := next G2 hI2
  refine ⟨h', N', ?_⟩
  refine aw_ald1 dL_law_189 ?_
  refine aw_ald0 dL_law_190 ?_
  refine aw_ild4 dL_law_191 ?_
  refine aw_iconst dL_law_193 ?_
  refine aw_iadd dL_law_194 ?_
  refine aw_sald dL_law_195 hS (by omega) ⟨by omega, by omega⟩ ?_
  refine aw_ald0 dL_law_196 ?_
  refine aw_ild4 dL_law_197 ?_
  refine aw_iconst dL_law_199 ?_
  refine aw_iadd dL_law_200 ?_
  refine aw_sald dL_law_201 hS (by omega) ⟨by omega, by omega⟩ ?_
  refine aw_ald0 dL_law_202 ?_
  refine aw_ild4 dL_law_203 ?_
  refine aw_iconst dL_law_205 ?_
  refine aw_iadd dL_law_206 ?_
  refine aw_sald dL_law_207 hS (by omega) ⟨by omega, by omega⟩ ?_
  refine aw_ald0 dL_law_208 ?_
  refine aw_ild4 dL_law_209 ?_
  refine aw_iconst dL_law_211 ?_
  refine aw_iadd dL_law_212 ?_
  refine aw_sald dL_law_213 hS (by omega) ⟨by omega, by omega⟩ ?_
  refine aw_ald0 dL_law_214 ?_
  refine aw_ild4 dL_law_215 ?_
  refine aw_iconst dL_law_217 ?_
  refine aw_iadd dL_law_218 ?_
  refine aw_sald dL_law_219 hS (by omega) ⟨by omega, by omega⟩ ?_
  refine aw_V5v dL_law_220 h1 (by rfl) rfl hbY_X8_thing hbm_L_48 hbi_X8_thing hbe_X8_X8_thing (Nat.le_of_ble_eq_true rfl) (hb_ro hd1 (by decide)) (by omega) (by omega) ?_
  refine aw_ald2 dL_law_223 ?_
  refine aw_ald0 dL_law_224 ?_
  refine aw_ild4 dL_law_225 ?_
  refine aw_iconst dL_law_227 ?_
  refine aw_iadd dL_law_228 ?_
  refine aw_sald dL_law_229 hS (by omega) ⟨by omega, by omega⟩ ?_
  refine aw_ald0 dL_law_230 ?_
  refine aw_ild4 dL_law_231 ?_
  refine aw_iconst dL_law_233 ?_
  refine aw_iadd dL_law_234 ?_
  refine aw_sald dL_law_235 hS (by omega) ⟨by omega, by omega⟩ ?_
  refine aw_ald0 dL_law_236 ?_
  refine aw_ild4 dL_law_237 ?_
  refine aw_iconst dL_law_239 ?_
  refine aw_iadd dL_law_240 ?_
  refine aw_sald dL_law_241 hS (by omega) ⟨by omega, by omega⟩ ?_
  refine aw_ald0 dL_law_242 ?_
  refine aw_ild4 dL_law_243 ?_
  refine aw_iconst dL_law_245 ?_
  refine aw_iadd dL_law_246 ?_
  refine aw_sald dL_law_247 hS (by omega) ⟨by omega, by omega⟩ ?_
  refine aw_ald0 dL_law_248 ?_
  refine aw_ild4 dL_law_249 ?_
  refine aw_iconst dL_law_251 ?_
  refine aw_iadd dL_law_252 ?_
  refine aw_sald dL_law_253 hS (by omega) ⟨by omega, by omega⟩ ?_
  refine aw_V5v dL_law_254 h2 (by rfl) rfl hbY_X9_thing hbm_L_52 hbi_X9_thing hbe_X9_X9_thing (Nat.le_of_ble_eq_true rfl) (hb_ro hd2 (by decide)) (by omega) (by omega) ?_
  refine aw_icmp_eq dL_law_257 (tg := 1450) (by decide) hv hv (fun _ => ?_) (fun h9 => absurd rfl h9)
  exact k
theorem law_task {l : Launch} {I : hb_I} {nm : String} {tb : List ExceptionTableEntry} {E : hb_E} {z0 : Heap} {σ0 : Nat → Nat} {G : hb_G} {F : hb_F} {na kc ks L : Nat} {f : Int → Int} {i : Int} (hS : hb_SC E z0 σ0 L f) (hi : 0 ≤ i ∧ i + 6 ≤ L) (hna : na ≤ 900000) (hkc : kc + 2 ≤ room_1.cells) (hks : ks + 15 ≤ room_1.slots) (hI : I G F na) (hq : hb_stQ l I yX8_task cX8_task 8 (some .boolean) yX9_task cX9_task 6 (some .boolean) [hb_i (f (i + 1)), hb_i (f (i + 2)), hb_i (f (i + 3)), hb_i (f (i + 4)), hb_i (f (i + 5))])
    (next : ∀ G2, I G2 F na → ∃ h' N', hb_LW l nm tb E z0 σ0 h' N' kc ks 1450 (hb_l5 i) [] (hb_w G2 F na) (77 + na)) : ∃ h' N', hb_LW l nm tb E z0 σ0 h' N' kc ks 262 (hb_l5 i) [] (hb_w G F na) (77 + na) := by
  obtain ⟨v, G1, G2, d1, d2, hv, hd1, hd2, h1, h2, hI2⟩ := hq G F na hI
  obtain ⟨h', N', k⟩ := next G2 hI2
  refine ⟨h', N', ?_⟩
  refine aw_ald1 dL_law_262 ?_
  refine aw_ald0 dL_law_263 ?_
  refine aw_ild4 dL_law_264 ?_
  refine aw_iconst dL_law_266 ?_
  refine aw_iadd dL_law_267 ?_
  refine aw_sald dL_law_268 hS (by omega) ⟨by omega, by omega⟩ ?_
  refine aw_ald0 dL_law_269 ?_
  refine aw_ild4 dL_law_270 ?_
  refine aw_iconst dL_law_272 ?_
  refine aw_iadd dL_law_273 ?_
  refine aw_sald dL_law_274 hS (by omega) ⟨by omega, by omega⟩ ?_
  refine aw_ald0 dL_law_275 ?_
  refine aw_ild4 dL_law_276 ?_
  refine aw_iconst dL_law_278 ?_
  refine aw_iadd dL_law_279 ?_
  refine aw_sald dL_law_280 hS (by omega) ⟨by omega, by omega⟩ ?_
  refine aw_ald0 dL_law_281 ?_
  refine aw_ild4 dL_law_282 ?_
  refine aw_iconst dL_law_284 ?_
  refine aw_iadd dL_law_285 ?_
  refine aw_sald dL_law_286 hS (by omega) ⟨by omega, by omega⟩ ?_
  refine aw_ald0 dL_law_287 ?_
  refine aw_ild4 dL_law_288 ?_
  refine aw_iconst dL_law_290 ?_
  refine aw_iadd dL_law_291 ?_
  refine aw_sald dL_law_292 hS (by omega) ⟨by omega, by omega⟩ ?_
  refine aw_V5v dL_law_293 h1 (by rfl) rfl hbY_X8_task hbm_L_53 hbi_X8_task hbe_X8_X8_task (Nat.le_of_ble_eq_true rfl) (hb_ro hd1 (by decide)) (by omega) (by omega) ?_
  refine aw_ald2 dL_law_296 ?_
  refine aw_ald0 dL_law_297 ?_
  refine aw_ild4 dL_law_298 ?_
  refine aw_iconst dL_law_300 ?_
  refine aw_iadd dL_law_301 ?_
  refine aw_sald dL_law_302 hS (by omega) ⟨by omega, by omega⟩ ?_
  refine aw_ald0 dL_law_303 ?_
  refine aw_ild4 dL_law_304 ?_
  refine aw_iconst dL_law_306 ?_
  refine aw_iadd dL_law_307 ?_
  refine aw_sald dL_law_308 hS (by omega) ⟨by omega, by omega⟩ ?_
  refine aw_ald0 dL_law_309 ?_
  refine aw_ild4 dL_law_310 ?_
  refine aw_iconst dL_law_312 ?_
  refine aw_iadd dL_law_313 ?_
  refine aw_sald dL_law_314 hS (by omega) ⟨by omega, by omega⟩ ?_
  refine aw_ald0 dL_law_315 ?_
  refine aw_ild4 dL_law_316 ?_
  refine aw_iconst dL_law_318 ?_
  refine aw_iadd dL_law_319 ?_
  refine aw_sald dL_law_320 hS (by omega) ⟨by omega, by omega⟩ ?_
  refine aw_ald0 dL_law_321 ?_
  refine aw_ild4 dL_law_322 ?_
  refine aw_iconst dL_law_324 ?_
  refine aw_iadd dL_law_325 ?_
  refine aw_sald dL_law_326 hS (by omega) ⟨by omega, by omega⟩ ?_
  refine aw_V5v dL_law_327 h2 (by rfl) rfl hbY_X9_task hbm_L_56 hbi_X9_task hbe_X9_X9_task (Nat.le_of_ble_eq_true rfl) (hb_ro hd2 (by decide)) (by omega) (by omega) ?_
  refine aw_icmp_eq dL_law_330 (tg := 1450) (by decide) hv hv (fun _ => ?_) (fun h9 => absurd rfl h9)
  exact k
theorem law_order {l : Launch} {I : hb_I} {nm : String} {tb : List ExceptionTableEntry} {E : hb_E} {z0 : Heap} {σ0 : Nat → Nat} {G : hb_G} {F : hb_F} {na kc ks L : Nat} {f : Int → Int} {i : Int} (hS : hb_SC E z0 σ0 L f) (hi : 0 ≤ i ∧ i + 6 ≤ L) (hna : na ≤ 900000) (hkc : kc + 2 ≤ room_1.cells) (hks : ks + 15 ≤ room_1.slots) (hI : I G F na) (hq : hb_stQ l I yX8_order cX8_order 8 (some .boolean) yX9_order cX9_order 6 (some .boolean) [hb_i (f (i + 1)), hb_i (f (i + 2)), hb_i (f (i + 3)), hb_i (f (i + 4)), hb_i (f (i + 5))])
    (next : ∀ G2, I G2 F na → ∃ h' N', hb_LW l nm tb E z0 σ0 h' N' kc ks 1450 (hb_l5 i) [] (hb_w G2 F na) (77 + na)) : ∃ h' N', hb_LW l nm tb E z0 σ0 h' N' kc ks 335 (hb_l5 i) [] (hb_w G F na) (77 + na) := by
  obtain ⟨v, G1, G2, d1, d2, hv, hd1, hd2, h1, h2, hI2⟩ := hq G F na hI
  obtain ⟨h', N', k⟩ := next G2 hI2
  refine ⟨h', N', ?_⟩
  refine aw_ald1 dL_law_335 ?_
  refine aw_ald0 dL_law_336 ?_
  refine aw_ild4 dL_law_337 ?_
  refine aw_iconst dL_law_339 ?_
  refine aw_iadd dL_law_340 ?_
  refine aw_sald dL_law_341 hS (by omega) ⟨by omega, by omega⟩ ?_
  refine aw_ald0 dL_law_342 ?_
  refine aw_ild4 dL_law_343 ?_
  refine aw_iconst dL_law_345 ?_
  refine aw_iadd dL_law_346 ?_
  refine aw_sald dL_law_347 hS (by omega) ⟨by omega, by omega⟩ ?_
  refine aw_ald0 dL_law_348 ?_
  refine aw_ild4 dL_law_349 ?_
  refine aw_iconst dL_law_351 ?_
  refine aw_iadd dL_law_352 ?_
  refine aw_sald dL_law_353 hS (by omega) ⟨by omega, by omega⟩ ?_
  refine aw_ald0 dL_law_354 ?_
  refine aw_ild4 dL_law_355 ?_
  refine aw_iconst dL_law_357 ?_
  refine aw_iadd dL_law_358 ?_
  refine aw_sald dL_law_359 hS (by omega) ⟨by omega, by omega⟩ ?_
  refine aw_ald0 dL_law_360 ?_
  refine aw_ild4 dL_law_361 ?_
  refine aw_iconst dL_law_363 ?_
  refine aw_iadd dL_law_364 ?_
  refine aw_sald dL_law_365 hS (by omega) ⟨by omega, by omega⟩ ?_
  refine aw_V5v dL_law_366 h1 (by rfl) rfl hbY_X8_order hbm_L_57 hbi_X8_order hbe_X8_X8_order (Nat.le_of_ble_eq_true rfl) (hb_ro hd1 (by decide)) (by omega) (by omega) ?_
  refine aw_ald2 dL_law_369 ?_
  refine aw_ald0 dL_law_370 ?_
  refine aw_ild4 dL_law_371 ?_
  refine aw_iconst dL_law_373 ?_
  refine aw_iadd dL_law_374 ?_
  refine aw_sald dL_law_375 hS (by omega) ⟨by omega, by omega⟩ ?_
  refine aw_ald0 dL_law_376 ?_
  refine aw_ild4 dL_law_377 ?_
  refine aw_iconst dL_law_379 ?_
  refine aw_iadd dL_law_380 ?_
  refine aw_sald dL_law_381 hS (by omega) ⟨by omega, by omega⟩ ?_
  refine aw_ald0 dL_law_382 ?_
  refine aw_ild4 dL_law_383 ?_
  refine aw_iconst dL_law_385 ?_
  refine aw_iadd dL_law_386 ?_
  refine aw_sald dL_law_387 hS (by omega) ⟨by omega, by omega⟩ ?_
  refine aw_ald0 dL_law_388 ?_
  refine aw_ild4 dL_law_389 ?_
  refine aw_iconst dL_law_391 ?_
  refine aw_iadd dL_law_392 ?_
  refine aw_sald dL_law_393 hS (by omega) ⟨by omega, by omega⟩ ?_
  refine aw_ald0 dL_law_394 ?_
  refine aw_ild4 dL_law_395 ?_
  refine aw_iconst dL_law_397 ?_
  refine aw_iadd dL_law_398 ?_
  refine aw_sald dL_law_399 hS (by omega) ⟨by omega, by omega⟩ ?_
  refine aw_V5v dL_law_400 h2 (by rfl) rfl hbY_X9_order hbm_L_60 hbi_X9_order hbe_X9_X9_order (Nat.le_of_ble_eq_true rfl) (hb_ro hd2 (by decide)) (by omega) (by omega) ?_
  refine aw_icmp_eq dL_law_403 (tg := 1450) (by decide) hv hv (fun _ => ?_) (fun h9 => absurd rfl h9)
  exact k
theorem law_life {l : Launch} {I : hb_I} {nm : String} {tb : List ExceptionTableEntry} {E : hb_E} {z0 : Heap} {σ0 : Nat → Nat} {G : hb_G} {F : hb_F} {na kc ks L : Nat} {f : Int → Int} {i : Int} (hS : hb_SC E z0 σ0 L f) (hi : 0 ≤ i ∧ i + 6 ≤ L) (hna : na ≤ 900000) (hkc : kc + 2 ≤ room_1.cells) (hks : ks + 15 ≤ room_1.slots) (hI : I G F na) (hq : hb_stQ l I yX8_life cX8_life 4 (some .boolean) yX9_life cX9_life 4 (some .boolean) [hb_i (f (i + 1)), hb_i (f (i + 2)), hb_i (f (i + 3))])
    (next : ∀ G2, I G2 F na → ∃ h' N', hb_LW l nm tb E z0 σ0 h' N' kc ks 1450 (hb_l5 i) [] (hb_w G2 F na) (77 + na)) : ∃ h' N', hb_LW l nm tb E z0 σ0 h' N' kc ks 408 (hb_l5 i) [] (hb_w G F na) (77 + na) := by
  obtain ⟨v, G1, G2, d1, d2, hv, hd1, hd2, h1, h2, hI2⟩ := hq G F na hI
  obtain ⟨h', N', k⟩ := next G2 hI2
  refine ⟨h', N', ?_⟩
  refine aw_ald1 dL_law_408 ?_
  refine aw_ald0 dL_law_409 ?_
  refine aw_ild4 dL_law_410 ?_
  refine aw_iconst dL_law_412 ?_
  refine aw_iadd dL_law_413 ?_
  refine aw_sald dL_law_414 hS (by omega) ⟨by omega, by omega⟩ ?_
  refine aw_ald0 dL_law_415 ?_
  refine aw_ild4 dL_law_416 ?_
  refine aw_iconst dL_law_418 ?_
  refine aw_iadd dL_law_419 ?_
  refine aw_sald dL_law_420 hS (by omega) ⟨by omega, by omega⟩ ?_
  refine aw_ald0 dL_law_421 ?_
  refine aw_ild4 dL_law_422 ?_
  refine aw_iconst dL_law_424 ?_
  refine aw_iadd dL_law_425 ?_
  refine aw_sald dL_law_426 hS (by omega) ⟨by omega, by omega⟩ ?_
  refine aw_V3v dL_law_427 h1 (by rfl) rfl hbY_X8_life hbm_L_61 hbi_X8_life hbe_X8_X8_life (Nat.le_of_ble_eq_true rfl) (hb_ro hd1 (by decide)) (by omega) (by omega) ?_
  refine aw_ald2 dL_law_430 ?_
  refine aw_ald0 dL_law_431 ?_
  refine aw_ild4 dL_law_432 ?_
  refine aw_iconst dL_law_434 ?_
  refine aw_iadd dL_law_435 ?_
  refine aw_sald dL_law_436 hS (by omega) ⟨by omega, by omega⟩ ?_
  refine aw_ald0 dL_law_437 ?_
  refine aw_ild4 dL_law_438 ?_
  refine aw_iconst dL_law_440 ?_
  refine aw_iadd dL_law_441 ?_
  refine aw_sald dL_law_442 hS (by omega) ⟨by omega, by omega⟩ ?_
  refine aw_ald0 dL_law_443 ?_
  refine aw_ild4 dL_law_444 ?_
  refine aw_iconst dL_law_446 ?_
  refine aw_iadd dL_law_447 ?_
  refine aw_sald dL_law_448 hS (by omega) ⟨by omega, by omega⟩ ?_
  refine aw_V3v dL_law_449 h2 (by rfl) rfl hbY_X9_life hbm_L_64 hbi_X9_life hbe_X9_X9_life (Nat.le_of_ble_eq_true rfl) (hb_ro hd2 (by decide)) (by omega) (by omega) ?_
  refine aw_icmp_eq dL_law_452 (tg := 1450) (by decide) hv hv (fun _ => ?_) (fun h9 => absurd rfl h9)
  exact k
theorem law_flight {l : Launch} {I : hb_I} {nm : String} {tb : List ExceptionTableEntry} {E : hb_E} {z0 : Heap} {σ0 : Nat → Nat} {G : hb_G} {F : hb_F} {na kc ks L : Nat} {f : Int → Int} {i : Int} (hS : hb_SC E z0 σ0 L f) (hi : 0 ≤ i ∧ i + 6 ≤ L) (hna : na ≤ 900000) (hkc : kc + 2 ≤ room_1.cells) (hks : ks + 15 ≤ room_1.slots) (hI : I G F na) (hq : hb_stE l I yL_flight cL_flight 7 [(0, 14, 17, 13), (0, 14, 21, 15)] yX9_flight cX9_flight 7 [hb_i (f (i + 1)), hb_i (f (i + 2)), hb_i (f (i + 3)), hb_i (f (i + 4))])
    (next : ∀ G2 F1 na1 kc1 ks1, na1 ≤ na + 1 → kc1 ≤ kc + 2 → ks1 ≤ ks + 15 → I G2 F1 na1 → ∃ h' N', hb_LW l nm tb E z0 σ0 h' N' kc1 ks1 1450 (hb_l5 i) [] (hb_w G2 F1 na1) (77 + na1)) : ∃ h' N', hb_LW l nm tb E z0 σ0 h' N' kc ks 457 (hb_l5 i) [] (hb_w G F na) (77 + na) := by
  obtain ⟨kk, b, G1, G2, F1, na1, mc, ms, d2, hk1, hb1, hmc, hms, hn0, hn1, hd2, h1, h2, e1, e2, hI2⟩ := hq G F na hI
  obtain ⟨h', N', k⟩ := next G2 F1 na1 (kc + mc) (ks + ms) hn1 (by omega) (by omega) hI2
  refine ⟨h', N', ?_⟩
  refine aw_ald1 dL_law_457 ?_
  refine aw_ald0 dL_law_458 ?_
  refine aw_ild4 dL_law_459 ?_
  refine aw_iconst dL_law_461 ?_
  refine aw_iadd dL_law_462 ?_
  refine aw_sald dL_law_463 hS (by omega) ⟨by omega, by omega⟩ ?_
  refine aw_ald0 dL_law_464 ?_
  refine aw_ild4 dL_law_465 ?_
  refine aw_iconst dL_law_467 ?_
  refine aw_iadd dL_law_468 ?_
  refine aw_sald dL_law_469 hS (by omega) ⟨by omega, by omega⟩ ?_
  refine aw_ald0 dL_law_470 ?_
  refine aw_ild4 dL_law_471 ?_
  refine aw_iconst dL_law_473 ?_
  refine aw_iadd dL_law_474 ?_
  refine aw_sald dL_law_475 hS (by omega) ⟨by omega, by omega⟩ ?_
  refine aw_ald0 dL_law_476 ?_
  refine aw_ild4 dL_law_477 ?_
  refine aw_iconst dL_law_479 ?_
  refine aw_iadd dL_law_480 ?_
  refine aw_sald dL_law_481 hS (by omega) ⟨by omega, by omega⟩ ?_
  refine aw_ald3 dL_law_482 ?_
  refine aw_SH (As := [hb_r 0, hb_i (f (i + 1)), hb_i (f (i + 2)), hb_i (f (i + 3)), hb_i (f (i + 4)), hb_r 76]) (rest := []) dL_law_483 h1 hbYH_flight hbm_L_65 hbs_L_flight (by decide) (hb_ro (by decide) (by decide)) (by omega) (by omega) (fun p hp => by simp at hp; omega) (fun p hp => nomatch hp) ?_
  refine aw_ipu5 dL_law_486 (by decide) ?_
  refine aw_ald2 dL_law_488 ?_
  refine aw_ald0 dL_law_489 ?_
  refine aw_ild4 dL_law_490 ?_
  refine aw_iconst dL_law_492 ?_
  refine aw_iadd dL_law_493 ?_
  refine aw_sald dL_law_494 hS (by omega) ⟨by omega, by omega⟩ ?_
  refine aw_ald0 dL_law_495 ?_
  refine aw_ild4 dL_law_496 ?_
  refine aw_iconst dL_law_498 ?_
  refine aw_iadd dL_law_499 ?_
  refine aw_sald dL_law_500 hS (by omega) ⟨by omega, by omega⟩ ?_
  refine aw_ald0 dL_law_501 ?_
  refine aw_ild4 dL_law_502 ?_
  refine aw_iconst dL_law_504 ?_
  refine aw_iadd dL_law_505 ?_
  refine aw_sald dL_law_506 hS (by omega) ⟨by omega, by omega⟩ ?_
  refine aw_ald0 dL_law_507 ?_
  refine aw_ild4 dL_law_508 ?_
  refine aw_iconst dL_law_510 ?_
  refine aw_iadd dL_law_511 ?_
  refine aw_sald dL_law_512 hS (by omega) ⟨by omega, by omega⟩ ?_
  refine aw_V4v dL_law_513 h2 (by rfl) rfl hbY_X9_flight hbm_L_70 hbi_X9_flight hbe_X9_X9_flight (Nat.le_of_ble_eq_true rfl) (hb_ro hd2 (by decide)) (by omega) (by omega) ?_
  refine aw_ipu6 dL_law_516 (by decide) ?_
  refine aw_ald2 dL_law_518 ?_
  refine aw_V0v dL_law_519 (c_thrown) (by rfl) rfl hbY_X9_thrown hbm_L_71 hbi_X9_thrown hbe_X9_X9_thrown (by decide) (hb_ro (by decide) (by decide)) (by omega) (by omega) ?_
  refine aw_top (c9 := kk) e1 ?_
  refine aw_ild5 dL_law_522 ?_
  refine aw_icmp_eq dL_law_524 (tg := 529) (by decide) hk1 hk1 (fun _ => ?_) (fun h9 => absurd rfl h9)
  refine aw_ild5 dL_law_529 ?_
  refine aw_if_ne dL_law_531 (tg := 546) (by decide) hk1 (fun _ => ?_) (fun h9 => ?_)
  · refine aw_goto dL_law_546 (tg := 1450) (by decide) ?_
    exact aw_keep (ls := (hb_l5 i)) (ls2 := [hb_i kk, hb_i b]) k
  · subst h9
    refine aw_ald3 dL_law_534 ?_
    refine aw_iconst dL_law_535 ?_
    refine aw_lald (q := 76) (n := 1) (f := G2 76) dL_law_536 (by rfl) (by decide) (by decide) ?_
    refine aw_topl (c9 := b) (e2 rfl) ?_
    refine aw_ild6 dL_law_537 ?_
    refine aw_i2l dL_law_539 hb1 ?_
    refine aw_lcmp dL_law_540 ?_
    refine aw_if_eq dL_law_541 (tg := 546) (by decide) (by decide) (fun _ => ?_) (fun h9 => absurd rfl h9)
    refine aw_goto dL_law_546 (tg := 1450) (by decide) ?_
    exact aw_keep (ls := (hb_l5 i)) (ls2 := [hb_i 0, hb_i b]) k
theorem law_put {l : Launch} {I : hb_I} {nm : String} {tb : List ExceptionTableEntry} {E : hb_E} {z0 : Heap} {σ0 : Nat → Nat} {G : hb_G} {F : hb_F} {na kc ks L : Nat} {f : Int → Int} {i : Int} (hS : hb_SC E z0 σ0 L f) (hi : 0 ≤ i ∧ i + 6 ≤ L) (hna : na ≤ 900000) (hkc : kc + 2 ≤ room_1.cells) (hks : ks + 15 ≤ room_1.slots) (hI : I G F na) (hq : hb_stE l I yL_put cL_put 7 [(0, 14, 17, 13), (0, 14, 21, 15)] yX9_put cX9_put 5 [hb_i (f (i + 1)), hb_i (f (i + 2)), hb_i (f (i + 3)), hb_i (f (i + 4))])
    (next : ∀ G2 F1 na1 kc1 ks1, na1 ≤ na + 1 → kc1 ≤ kc + 2 → ks1 ≤ ks + 15 → I G2 F1 na1 → ∃ h' N', hb_LW l nm tb E z0 σ0 h' N' kc1 ks1 1450 (hb_l5 i) [] (hb_w G2 F1 na1) (77 + na1)) : ∃ h' N', hb_LW l nm tb E z0 σ0 h' N' kc ks 549 (hb_l5 i) [] (hb_w G F na) (77 + na) := by
  obtain ⟨kk, b, G1, G2, F1, na1, mc, ms, d2, hk1, hb1, hmc, hms, hn0, hn1, hd2, h1, h2, e1, e2, hI2⟩ := hq G F na hI
  obtain ⟨h', N', k⟩ := next G2 F1 na1 (kc + mc) (ks + ms) hn1 (by omega) (by omega) hI2
  refine ⟨h', N', ?_⟩
  refine aw_ald1 dL_law_549 ?_
  refine aw_ald0 dL_law_550 ?_
  refine aw_ild4 dL_law_551 ?_
  refine aw_iconst dL_law_553 ?_
  refine aw_iadd dL_law_554 ?_
  refine aw_sald dL_law_555 hS (by omega) ⟨by omega, by omega⟩ ?_
  refine aw_ald0 dL_law_556 ?_
  refine aw_ild4 dL_law_557 ?_
  refine aw_iconst dL_law_559 ?_
  refine aw_iadd dL_law_560 ?_
  refine aw_sald dL_law_561 hS (by omega) ⟨by omega, by omega⟩ ?_
  refine aw_ald0 dL_law_562 ?_
  refine aw_ild4 dL_law_563 ?_
  refine aw_iconst dL_law_565 ?_
  refine aw_iadd dL_law_566 ?_
  refine aw_sald dL_law_567 hS (by omega) ⟨by omega, by omega⟩ ?_
  refine aw_ald0 dL_law_568 ?_
  refine aw_ild4 dL_law_569 ?_
  refine aw_iconst dL_law_571 ?_
  refine aw_iadd dL_law_572 ?_
  refine aw_sald dL_law_573 hS (by omega) ⟨by omega, by omega⟩ ?_
  refine aw_ald3 dL_law_574 ?_
  refine aw_SH (As := [hb_r 0, hb_i (f (i + 1)), hb_i (f (i + 2)), hb_i (f (i + 3)), hb_i (f (i + 4)), hb_r 76]) (rest := []) dL_law_575 h1 hbYH_put hbm_L_75 hbs_L_put (by decide) (hb_ro (by decide) (by decide)) (by omega) (by omega) (fun p hp => by simp at hp; omega) (fun p hp => nomatch hp) ?_
  refine aw_ipu5 dL_law_578 (by decide) ?_
  refine aw_ald2 dL_law_580 ?_
  refine aw_ald0 dL_law_581 ?_
  refine aw_ild4 dL_law_582 ?_
  refine aw_iconst dL_law_584 ?_
  refine aw_iadd dL_law_585 ?_
  refine aw_sald dL_law_586 hS (by omega) ⟨by omega, by omega⟩ ?_
  refine aw_ald0 dL_law_587 ?_
  refine aw_ild4 dL_law_588 ?_
  refine aw_iconst dL_law_590 ?_
  refine aw_iadd dL_law_591 ?_
  refine aw_sald dL_law_592 hS (by omega) ⟨by omega, by omega⟩ ?_
  refine aw_ald0 dL_law_593 ?_
  refine aw_ild4 dL_law_594 ?_
  refine aw_iconst dL_law_596 ?_
  refine aw_iadd dL_law_597 ?_
  refine aw_sald dL_law_598 hS (by omega) ⟨by omega, by omega⟩ ?_
  refine aw_ald0 dL_law_599 ?_
  refine aw_ild4 dL_law_600 ?_
  refine aw_iconst dL_law_602 ?_
  refine aw_iadd dL_law_603 ?_
  refine aw_sald dL_law_604 hS (by omega) ⟨by omega, by omega⟩ ?_
  refine aw_V4v dL_law_605 h2 (by rfl) rfl hbY_X9_put hbm_L_77 hbi_X9_put hbe_X9_X9_put (Nat.le_of_ble_eq_true rfl) (hb_ro hd2 (by decide)) (by omega) (by omega) ?_
  refine aw_ipu6 dL_law_608 (by decide) ?_
  refine aw_ald2 dL_law_610 ?_
  refine aw_V0v dL_law_611 (c_thrown) (by rfl) rfl hbY_X9_thrown hbm_L_71 hbi_X9_thrown hbe_X9_X9_thrown (by decide) (hb_ro (by decide) (by decide)) (by omega) (by omega) ?_
  refine aw_top (c9 := kk) e1 ?_
  refine aw_ild5 dL_law_614 ?_
  refine aw_icmp_eq dL_law_616 (tg := 621) (by decide) hk1 hk1 (fun _ => ?_) (fun h9 => absurd rfl h9)
  refine aw_ild5 dL_law_621 ?_
  refine aw_if_ne dL_law_623 (tg := 638) (by decide) hk1 (fun _ => ?_) (fun h9 => ?_)
  · refine aw_goto dL_law_638 (tg := 1450) (by decide) ?_
    exact aw_keep (ls := (hb_l5 i)) (ls2 := [hb_i kk, hb_i b]) k
  · subst h9
    refine aw_ald3 dL_law_626 ?_
    refine aw_iconst dL_law_627 ?_
    refine aw_lald (q := 76) (n := 1) (f := G2 76) dL_law_628 (by rfl) (by decide) (by decide) ?_
    refine aw_topl (c9 := b) (e2 rfl) ?_
    refine aw_ild6 dL_law_629 ?_
    refine aw_i2l dL_law_631 hb1 ?_
    refine aw_lcmp dL_law_632 ?_
    refine aw_if_eq dL_law_633 (tg := 638) (by decide) (by decide) (fun _ => ?_) (fun h9 => absurd rfl h9)
    refine aw_goto dL_law_638 (tg := 1450) (by decide) ?_
    exact aw_keep (ls := (hb_l5 i)) (ls2 := [hb_i 0, hb_i b]) k
theorem law_take {l : Launch} {I : hb_I} {nm : String} {tb : List ExceptionTableEntry} {E : hb_E} {z0 : Heap} {σ0 : Nat → Nat} {G : hb_G} {F : hb_F} {na kc ks L : Nat} {f : Int → Int} {i : Int} (hS : hb_SC E z0 σ0 L f) (hi : 0 ≤ i ∧ i + 6 ≤ L) (hna : na ≤ 900000) (hkc : kc + 2 ≤ room_1.cells) (hks : ks + 15 ≤ room_1.slots) (hI : I G F na) (hq : hb_stE l I yL_take cL_take 5 [(0, 10, 13, 13), (0, 10, 17, 15)] yX9_take cX9_take 3 [hb_i (f (i + 1)), hb_i (f (i + 2))])
    (next : ∀ G2 F1 na1 kc1 ks1, na1 ≤ na + 1 → kc1 ≤ kc + 2 → ks1 ≤ ks + 15 → I G2 F1 na1 → ∃ h' N', hb_LW l nm tb E z0 σ0 h' N' kc1 ks1 1450 (hb_l5 i) [] (hb_w G2 F1 na1) (77 + na1)) : ∃ h' N', hb_LW l nm tb E z0 σ0 h' N' kc ks 641 (hb_l5 i) [] (hb_w G F na) (77 + na) := by
  obtain ⟨kk, b, G1, G2, F1, na1, mc, ms, d2, hk1, hb1, hmc, hms, hn0, hn1, hd2, h1, h2, e1, e2, hI2⟩ := hq G F na hI
  obtain ⟨h', N', k⟩ := next G2 F1 na1 (kc + mc) (ks + ms) hn1 (by omega) (by omega) hI2
  refine ⟨h', N', ?_⟩
  refine aw_ald1 dL_law_641 ?_
  refine aw_ald0 dL_law_642 ?_
  refine aw_ild4 dL_law_643 ?_
  refine aw_iconst dL_law_645 ?_
  refine aw_iadd dL_law_646 ?_
  refine aw_sald dL_law_647 hS (by omega) ⟨by omega, by omega⟩ ?_
  refine aw_ald0 dL_law_648 ?_
  refine aw_ild4 dL_law_649 ?_
  refine aw_iconst dL_law_651 ?_
  refine aw_iadd dL_law_652 ?_
  refine aw_sald dL_law_653 hS (by omega) ⟨by omega, by omega⟩ ?_
  refine aw_ald3 dL_law_654 ?_
  refine aw_SH (As := [hb_r 0, hb_i (f (i + 1)), hb_i (f (i + 2)), hb_r 76]) (rest := []) dL_law_655 h1 hbYH_take hbm_L_78 hbs_L_take (by decide) (hb_ro (by decide) (by decide)) (by omega) (by omega) (fun p hp => by simp at hp; omega) (fun p hp => nomatch hp) ?_
  refine aw_ipu5 dL_law_658 (by decide) ?_
  refine aw_ald2 dL_law_660 ?_
  refine aw_ald0 dL_law_661 ?_
  refine aw_ild4 dL_law_662 ?_
  refine aw_iconst dL_law_664 ?_
  refine aw_iadd dL_law_665 ?_
  refine aw_sald dL_law_666 hS (by omega) ⟨by omega, by omega⟩ ?_
  refine aw_ald0 dL_law_667 ?_
  refine aw_ild4 dL_law_668 ?_
  refine aw_iconst dL_law_670 ?_
  refine aw_iadd dL_law_671 ?_
  refine aw_sald dL_law_672 hS (by omega) ⟨by omega, by omega⟩ ?_
  refine aw_V2v dL_law_673 h2 (by rfl) rfl hbY_X9_take hbm_L_81 hbi_X9_take hbe_X9_X9_take (Nat.le_of_ble_eq_true rfl) (hb_ro hd2 (by decide)) (by omega) (by omega) ?_
  refine aw_ipu6 dL_law_676 (by decide) ?_
  refine aw_ald2 dL_law_678 ?_
  refine aw_V0v dL_law_679 (c_thrown) (by rfl) rfl hbY_X9_thrown hbm_L_71 hbi_X9_thrown hbe_X9_X9_thrown (by decide) (hb_ro (by decide) (by decide)) (by omega) (by omega) ?_
  refine aw_top (c9 := kk) e1 ?_
  refine aw_ild5 dL_law_682 ?_
  refine aw_icmp_eq dL_law_684 (tg := 689) (by decide) hk1 hk1 (fun _ => ?_) (fun h9 => absurd rfl h9)
  refine aw_ild5 dL_law_689 ?_
  refine aw_if_ne dL_law_691 (tg := 706) (by decide) hk1 (fun _ => ?_) (fun h9 => ?_)
  · refine aw_goto dL_law_706 (tg := 1450) (by decide) ?_
    exact aw_keep (ls := (hb_l5 i)) (ls2 := [hb_i kk, hb_i b]) k
  · subst h9
    refine aw_ald3 dL_law_694 ?_
    refine aw_iconst dL_law_695 ?_
    refine aw_lald (q := 76) (n := 1) (f := G2 76) dL_law_696 (by rfl) (by decide) (by decide) ?_
    refine aw_topl (c9 := b) (e2 rfl) ?_
    refine aw_ild6 dL_law_697 ?_
    refine aw_i2l dL_law_699 hb1 ?_
    refine aw_lcmp dL_law_700 ?_
    refine aw_if_eq dL_law_701 (tg := 706) (by decide) (by decide) (fun _ => ?_) (fun h9 => absurd rfl h9)
    refine aw_goto dL_law_706 (tg := 1450) (by decide) ?_
    exact aw_keep (ls := (hb_l5 i)) (ls2 := [hb_i 0, hb_i b]) k
theorem law_done {l : Launch} {I : hb_I} {nm : String} {tb : List ExceptionTableEntry} {E : hb_E} {z0 : Heap} {σ0 : Nat → Nat} {G : hb_G} {F : hb_F} {na kc ks L : Nat} {f : Int → Int} {i : Int} (hS : hb_SC E z0 σ0 L f) (hi : 0 ≤ i ∧ i + 6 ≤ L) (hna : na ≤ 900000) (hkc : kc + 2 ≤ room_1.cells) (hks : ks + 15 ≤ room_1.slots) (hI : I G F na) (hq : hb_stE l I yL_done cL_done 6 [(0, 12, 15, 13), (0, 12, 19, 15)] yX9_done cX9_done 4 [hb_i (f (i + 1)), hb_i (f (i + 2)), hb_i (f (i + 3))])
    (next : ∀ G2 F1 na1 kc1 ks1, na1 ≤ na + 1 → kc1 ≤ kc + 2 → ks1 ≤ ks + 15 → I G2 F1 na1 → ∃ h' N', hb_LW l nm tb E z0 σ0 h' N' kc1 ks1 1450 (hb_l5 i) [] (hb_w G2 F1 na1) (77 + na1)) : ∃ h' N', hb_LW l nm tb E z0 σ0 h' N' kc ks 709 (hb_l5 i) [] (hb_w G F na) (77 + na) := by
  obtain ⟨kk, b, G1, G2, F1, na1, mc, ms, d2, hk1, hb1, hmc, hms, hn0, hn1, hd2, h1, h2, e1, e2, hI2⟩ := hq G F na hI
  obtain ⟨h', N', k⟩ := next G2 F1 na1 (kc + mc) (ks + ms) hn1 (by omega) (by omega) hI2
  refine ⟨h', N', ?_⟩
  refine aw_ald1 dL_law_709 ?_
  refine aw_ald0 dL_law_710 ?_
  refine aw_ild4 dL_law_711 ?_
  refine aw_iconst dL_law_713 ?_
  refine aw_iadd dL_law_714 ?_
  refine aw_sald dL_law_715 hS (by omega) ⟨by omega, by omega⟩ ?_
  refine aw_ald0 dL_law_716 ?_
  refine aw_ild4 dL_law_717 ?_
  refine aw_iconst dL_law_719 ?_
  refine aw_iadd dL_law_720 ?_
  refine aw_sald dL_law_721 hS (by omega) ⟨by omega, by omega⟩ ?_
  refine aw_ald0 dL_law_722 ?_
  refine aw_ild4 dL_law_723 ?_
  refine aw_iconst dL_law_725 ?_
  refine aw_iadd dL_law_726 ?_
  refine aw_sald dL_law_727 hS (by omega) ⟨by omega, by omega⟩ ?_
  refine aw_ald3 dL_law_728 ?_
  refine aw_SH (As := [hb_r 0, hb_i (f (i + 1)), hb_i (f (i + 2)), hb_i (f (i + 3)), hb_r 76]) (rest := []) dL_law_729 h1 hbYH_done hbm_L_82 hbs_L_done (by decide) (hb_ro (by decide) (by decide)) (by omega) (by omega) (fun p hp => by simp at hp; omega) (fun p hp => nomatch hp) ?_
  refine aw_ipu5 dL_law_732 (by decide) ?_
  refine aw_ald2 dL_law_734 ?_
  refine aw_ald0 dL_law_735 ?_
  refine aw_ild4 dL_law_736 ?_
  refine aw_iconst dL_law_738 ?_
  refine aw_iadd dL_law_739 ?_
  refine aw_sald dL_law_740 hS (by omega) ⟨by omega, by omega⟩ ?_
  refine aw_ald0 dL_law_741 ?_
  refine aw_ild4 dL_law_742 ?_
  refine aw_iconst dL_law_744 ?_
  refine aw_iadd dL_law_745 ?_
  refine aw_sald dL_law_746 hS (by omega) ⟨by omega, by omega⟩ ?_
  refine aw_ald0 dL_law_747 ?_
  refine aw_ild4 dL_law_748 ?_
  refine aw_iconst dL_law_750 ?_
  refine aw_iadd dL_law_751 ?_
  refine aw_sald dL_law_752 hS (by omega) ⟨by omega, by omega⟩ ?_
  refine aw_V3v dL_law_753 h2 (by rfl) rfl hbY_X9_done hbm_L_85 hbi_X9_done hbe_X9_X9_done (Nat.le_of_ble_eq_true rfl) (hb_ro hd2 (by decide)) (by omega) (by omega) ?_
  refine aw_ipu6 dL_law_756 (by decide) ?_
  refine aw_ald2 dL_law_758 ?_
  refine aw_V0v dL_law_759 (c_thrown) (by rfl) rfl hbY_X9_thrown hbm_L_71 hbi_X9_thrown hbe_X9_X9_thrown (by decide) (hb_ro (by decide) (by decide)) (by omega) (by omega) ?_
  refine aw_top (c9 := kk) e1 ?_
  refine aw_ild5 dL_law_762 ?_
  refine aw_icmp_eq dL_law_764 (tg := 769) (by decide) hk1 hk1 (fun _ => ?_) (fun h9 => absurd rfl h9)
  refine aw_ild5 dL_law_769 ?_
  refine aw_if_ne dL_law_771 (tg := 786) (by decide) hk1 (fun _ => ?_) (fun h9 => ?_)
  · refine aw_goto dL_law_786 (tg := 1450) (by decide) ?_
    exact aw_keep (ls := (hb_l5 i)) (ls2 := [hb_i kk, hb_i b]) k
  · subst h9
    refine aw_ald3 dL_law_774 ?_
    refine aw_iconst dL_law_775 ?_
    refine aw_lald (q := 76) (n := 1) (f := G2 76) dL_law_776 (by rfl) (by decide) (by decide) ?_
    refine aw_topl (c9 := b) (e2 rfl) ?_
    refine aw_ild6 dL_law_777 ?_
    refine aw_i2l dL_law_779 hb1 ?_
    refine aw_lcmp dL_law_780 ?_
    refine aw_if_eq dL_law_781 (tg := 786) (by decide) (by decide) (fun _ => ?_) (fun h9 => absurd rfl h9)
    refine aw_goto dL_law_786 (tg := 1450) (by decide) ?_
    exact aw_keep (ls := (hb_l5 i)) (ls2 := [hb_i 0, hb_i b]) k
theorem law_concede {l : Launch} {I : hb_I} {nm : String} {tb : List ExceptionTableEntry} {E : hb_E} {z0 : Heap} {σ0 : Nat → Nat} {G : hb_G} {F : hb_F} {na kc ks L : Nat} {f : Int → Int} {i : Int} (hS : hb_SC E z0 σ0 L f) (hi : 0 ≤ i ∧ i + 6 ≤ L) (hna : na ≤ 900000) (hkc : kc + 2 ≤ room_1.cells) (hks : ks + 15 ≤ room_1.slots) (hI : I G F na) (hq : hb_stE l I yL_concede cL_concede 8 [(0, 16, 19, 13), (0, 16, 23, 15)] yX9_concede cX9_concede 7 [hb_i (f (i + 1)), hb_i (f (i + 2)), hb_i (f (i + 3)), hb_i (f (i + 4)), hb_i (f (i + 5))])
    (next : ∀ G2 F1 na1 kc1 ks1, na1 ≤ na + 1 → kc1 ≤ kc + 2 → ks1 ≤ ks + 15 → I G2 F1 na1 → ∃ h' N', hb_LW l nm tb E z0 σ0 h' N' kc1 ks1 1450 (hb_l5 i) [] (hb_w G2 F1 na1) (77 + na1)) : ∃ h' N', hb_LW l nm tb E z0 σ0 h' N' kc ks 789 (hb_l5 i) [] (hb_w G F na) (77 + na) := by
  obtain ⟨kk, b, G1, G2, F1, na1, mc, ms, d2, hk1, hb1, hmc, hms, hn0, hn1, hd2, h1, h2, e1, e2, hI2⟩ := hq G F na hI
  obtain ⟨h', N', k⟩ := next G2 F1 na1 (kc + mc) (ks + ms) hn1 (by omega) (by omega) hI2
  refine ⟨h', N', ?_⟩
  refine aw_ald1 dL_law_789 ?_
  refine aw_ald0 dL_law_790 ?_
  refine aw_ild4 dL_law_791 ?_
  refine aw_iconst dL_law_793 ?_
  refine aw_iadd dL_law_794 ?_
  refine aw_sald dL_law_795 hS (by omega) ⟨by omega, by omega⟩ ?_
  refine aw_ald0 dL_law_796 ?_
  refine aw_ild4 dL_law_797 ?_
  refine aw_iconst dL_law_799 ?_
  refine aw_iadd dL_law_800 ?_
  refine aw_sald dL_law_801 hS (by omega) ⟨by omega, by omega⟩ ?_
  refine aw_ald0 dL_law_802 ?_
  refine aw_ild4 dL_law_803 ?_
  refine aw_iconst dL_law_805 ?_
  refine aw_iadd dL_law_806 ?_
  refine aw_sald dL_law_807 hS (by omega) ⟨by omega, by omega⟩ ?_
  refine aw_ald0 dL_law_808 ?_
  refine aw_ild4 dL_law_809 ?_
  refine aw_iconst dL_law_811 ?_
  refine aw_iadd dL_law_812 ?_
  refine aw_sald dL_law_813 hS (by omega) ⟨by omega, by omega⟩ ?_
  refine aw_ald0 dL_law_814 ?_
  refine aw_ild4 dL_law_815 ?_
  refine aw_iconst dL_law_817 ?_
  refine aw_iadd dL_law_818 ?_
  refine aw_sald dL_law_819 hS (by omega) ⟨by omega, by omega⟩ ?_
  refine aw_ald3 dL_law_820 ?_
  refine aw_SH (As := [hb_r 0, hb_i (f (i + 1)), hb_i (f (i + 2)), hb_i (f (i + 3)), hb_i (f (i + 4)), hb_i (f (i + 5)), hb_r 76]) (rest := []) dL_law_821 h1 hbYH_concede hbm_L_86 hbs_L_concede (by decide) (hb_ro (by decide) (by decide)) (by omega) (by omega) (fun p hp => by simp at hp; omega) (fun p hp => nomatch hp) ?_
  refine aw_ipu5 dL_law_824 (by decide) ?_
  refine aw_ald2 dL_law_826 ?_
  refine aw_ald0 dL_law_827 ?_
  refine aw_ild4 dL_law_828 ?_
  refine aw_iconst dL_law_830 ?_
  refine aw_iadd dL_law_831 ?_
  refine aw_sald dL_law_832 hS (by omega) ⟨by omega, by omega⟩ ?_
  refine aw_ald0 dL_law_833 ?_
  refine aw_ild4 dL_law_834 ?_
  refine aw_iconst dL_law_836 ?_
  refine aw_iadd dL_law_837 ?_
  refine aw_sald dL_law_838 hS (by omega) ⟨by omega, by omega⟩ ?_
  refine aw_ald0 dL_law_839 ?_
  refine aw_ild4 dL_law_840 ?_
  refine aw_iconst dL_law_842 ?_
  refine aw_iadd dL_law_843 ?_
  refine aw_sald dL_law_844 hS (by omega) ⟨by omega, by omega⟩ ?_
  refine aw_ald0 dL_law_845 ?_
  refine aw_ild4 dL_law_846 ?_
  refine aw_iconst dL_law_848 ?_
  refine aw_iadd dL_law_849 ?_
  refine aw_sald dL_law_850 hS (by omega) ⟨by omega, by omega⟩ ?_
  refine aw_ald0 dL_law_851 ?_
  refine aw_ild4 dL_law_852 ?_
  refine aw_iconst dL_law_854 ?_
  refine aw_iadd dL_law_855 ?_
  refine aw_sald dL_law_856 hS (by omega) ⟨by omega, by omega⟩ ?_
  refine aw_V5v dL_law_857 h2 (by rfl) rfl hbY_X9_concede hbm_L_89 hbi_X9_concede hbe_X9_X9_concede (Nat.le_of_ble_eq_true rfl) (hb_ro hd2 (by decide)) (by omega) (by omega) ?_
  refine aw_ipu6 dL_law_860 (by decide) ?_
  refine aw_ald2 dL_law_862 ?_
  refine aw_V0v dL_law_863 (c_thrown) (by rfl) rfl hbY_X9_thrown hbm_L_71 hbi_X9_thrown hbe_X9_X9_thrown (by decide) (hb_ro (by decide) (by decide)) (by omega) (by omega) ?_
  refine aw_top (c9 := kk) e1 ?_
  refine aw_ild5 dL_law_866 ?_
  refine aw_icmp_eq dL_law_868 (tg := 873) (by decide) hk1 hk1 (fun _ => ?_) (fun h9 => absurd rfl h9)
  refine aw_ild5 dL_law_873 ?_
  refine aw_if_ne dL_law_875 (tg := 890) (by decide) hk1 (fun _ => ?_) (fun h9 => ?_)
  · refine aw_goto dL_law_890 (tg := 1450) (by decide) ?_
    exact aw_keep (ls := (hb_l5 i)) (ls2 := [hb_i kk, hb_i b]) k
  · subst h9
    refine aw_ald3 dL_law_878 ?_
    refine aw_iconst dL_law_879 ?_
    refine aw_lald (q := 76) (n := 1) (f := G2 76) dL_law_880 (by rfl) (by decide) (by decide) ?_
    refine aw_topl (c9 := b) (e2 rfl) ?_
    refine aw_ild6 dL_law_881 ?_
    refine aw_i2l dL_law_883 hb1 ?_
    refine aw_lcmp dL_law_884 ?_
    refine aw_if_eq dL_law_885 (tg := 890) (by decide) (by decide) (fun _ => ?_) (fun h9 => absurd rfl h9)
    refine aw_goto dL_law_890 (tg := 1450) (by decide) ?_
    exact aw_keep (ls := (hb_l5 i)) (ls2 := [hb_i 0, hb_i b]) k
theorem law_rebuild {l : Launch} {I : hb_I} {nm : String} {tb : List ExceptionTableEntry} {E : hb_E} {z0 : Heap} {σ0 : Nat → Nat} {G : hb_G} {F : hb_F} {na kc ks L : Nat} {f : Int → Int} {i : Int} (hS : hb_SC E z0 σ0 L f) (hi : 0 ≤ i ∧ i + 6 ≤ L) (hna : na ≤ 900000) (hkc : kc + 2 ≤ room_1.cells) (hks : ks + 15 ≤ room_1.slots) (hI : I G F na) (hq : hb_stE l I yL_rebuild cL_rebuild 6 [(0, 12, 15, 13), (0, 12, 19, 15)] yX9_rebuild cX9_rebuild 4 [hb_i (f (i + 1)), hb_i (f (i + 2)), hb_i (f (i + 3))])
    (next : ∀ G2 F1 na1 kc1 ks1, na1 ≤ na + 1 → kc1 ≤ kc + 2 → ks1 ≤ ks + 15 → I G2 F1 na1 → ∃ h' N', hb_LW l nm tb E z0 σ0 h' N' kc1 ks1 1450 (hb_l5 i) [] (hb_w G2 F1 na1) (77 + na1)) : ∃ h' N', hb_LW l nm tb E z0 σ0 h' N' kc ks 893 (hb_l5 i) [] (hb_w G F na) (77 + na) := by
  obtain ⟨kk, b, G1, G2, F1, na1, mc, ms, d2, hk1, hb1, hmc, hms, hn0, hn1, hd2, h1, h2, e1, e2, hI2⟩ := hq G F na hI
  obtain ⟨h', N', k⟩ := next G2 F1 na1 (kc + mc) (ks + ms) hn1 (by omega) (by omega) hI2
  refine ⟨h', N', ?_⟩
  refine aw_ald1 dL_law_893 ?_
  refine aw_ald0 dL_law_894 ?_
  refine aw_ild4 dL_law_895 ?_
  refine aw_iconst dL_law_897 ?_
  refine aw_iadd dL_law_898 ?_
  refine aw_sald dL_law_899 hS (by omega) ⟨by omega, by omega⟩ ?_
  refine aw_ald0 dL_law_900 ?_
  refine aw_ild4 dL_law_901 ?_
  refine aw_iconst dL_law_903 ?_
  refine aw_iadd dL_law_904 ?_
  refine aw_sald dL_law_905 hS (by omega) ⟨by omega, by omega⟩ ?_
  refine aw_ald0 dL_law_906 ?_
  refine aw_ild4 dL_law_907 ?_
  refine aw_iconst dL_law_909 ?_
  refine aw_iadd dL_law_910 ?_
  refine aw_sald dL_law_911 hS (by omega) ⟨by omega, by omega⟩ ?_
  refine aw_ald3 dL_law_912 ?_
  refine aw_SH (As := [hb_r 0, hb_i (f (i + 1)), hb_i (f (i + 2)), hb_i (f (i + 3)), hb_r 76]) (rest := []) dL_law_913 h1 hbYH_rebuild hbm_L_90 hbs_L_rebuild (by decide) (hb_ro (by decide) (by decide)) (by omega) (by omega) (fun p hp => by simp at hp; omega) (fun p hp => nomatch hp) ?_
  refine aw_ipu5 dL_law_916 (by decide) ?_
  refine aw_ald2 dL_law_918 ?_
  refine aw_ald0 dL_law_919 ?_
  refine aw_ild4 dL_law_920 ?_
  refine aw_iconst dL_law_922 ?_
  refine aw_iadd dL_law_923 ?_
  refine aw_sald dL_law_924 hS (by omega) ⟨by omega, by omega⟩ ?_
  refine aw_ald0 dL_law_925 ?_
  refine aw_ild4 dL_law_926 ?_
  refine aw_iconst dL_law_928 ?_
  refine aw_iadd dL_law_929 ?_
  refine aw_sald dL_law_930 hS (by omega) ⟨by omega, by omega⟩ ?_
  refine aw_ald0 dL_law_931 ?_
  refine aw_ild4 dL_law_932 ?_
  refine aw_iconst dL_law_934 ?_
  refine aw_iadd dL_law_935 ?_
  refine aw_sald dL_law_936 hS (by omega) ⟨by omega, by omega⟩ ?_
  refine aw_V3v dL_law_937 h2 (by rfl) rfl hbY_X9_rebuild hbm_L_92 hbi_X9_rebuild hbe_X9_X9_rebuild (Nat.le_of_ble_eq_true rfl) (hb_ro hd2 (by decide)) (by omega) (by omega) ?_
  refine aw_ipu6 dL_law_940 (by decide) ?_
  refine aw_ald2 dL_law_942 ?_
  refine aw_V0v dL_law_943 (c_thrown) (by rfl) rfl hbY_X9_thrown hbm_L_71 hbi_X9_thrown hbe_X9_X9_thrown (by decide) (hb_ro (by decide) (by decide)) (by omega) (by omega) ?_
  refine aw_top (c9 := kk) e1 ?_
  refine aw_ild5 dL_law_946 ?_
  refine aw_icmp_eq dL_law_948 (tg := 953) (by decide) hk1 hk1 (fun _ => ?_) (fun h9 => absurd rfl h9)
  refine aw_ild5 dL_law_953 ?_
  refine aw_if_ne dL_law_955 (tg := 970) (by decide) hk1 (fun _ => ?_) (fun h9 => ?_)
  · refine aw_goto dL_law_970 (tg := 1450) (by decide) ?_
    exact aw_keep (ls := (hb_l5 i)) (ls2 := [hb_i kk, hb_i b]) k
  · subst h9
    refine aw_ald3 dL_law_958 ?_
    refine aw_iconst dL_law_959 ?_
    refine aw_lald (q := 76) (n := 1) (f := G2 76) dL_law_960 (by rfl) (by decide) (by decide) ?_
    refine aw_topl (c9 := b) (e2 rfl) ?_
    refine aw_ild6 dL_law_961 ?_
    refine aw_i2l dL_law_963 hb1 ?_
    refine aw_lcmp dL_law_964 ?_
    refine aw_if_eq dL_law_965 (tg := 970) (by decide) (by decide) (fun _ => ?_) (fun h9 => absurd rfl h9)
    refine aw_goto dL_law_970 (tg := 1450) (by decide) ?_
    exact aw_keep (ls := (hb_l5 i)) (ls2 := [hb_i 0, hb_i b]) k
theorem law_strike {l : Launch} {I : hb_I} {nm : String} {tb : List ExceptionTableEntry} {E : hb_E} {z0 : Heap} {σ0 : Nat → Nat} {G : hb_G} {F : hb_F} {na kc ks L : Nat} {f : Int → Int} {i : Int} (hS : hb_SC E z0 σ0 L f) (hi : 0 ≤ i ∧ i + 6 ≤ L) (hna : na ≤ 900000) (hkc : kc + 2 ≤ room_1.cells) (hks : ks + 15 ≤ room_1.slots) (hI : I G F na) (hq : hb_stS l I yL_strike cL_strike 3 [(0, 5, 8, 13), (0, 5, 11, 15)] yX9_strike cX9_strike 3 [hb_i (f (i + 1))])
    (next : ∀ G2 F1 na1 kc1 ks1, na1 ≤ na + 1 → kc1 ≤ kc + 2 → ks1 ≤ ks + 15 → I G2 F1 na1 → ∃ h' N', hb_LW l nm tb E z0 σ0 h' N' kc1 ks1 1450 (hb_l5 i) [] (hb_w G2 F1 na1) (77 + na1)) : ∃ h' N', hb_LW l nm tb E z0 σ0 h' N' kc ks 973 (hb_l5 i) [] (hb_w G F na) (77 + na) := by
  obtain ⟨kk, G1, G2, F1, na1, mc, ms, d2, hk1, hmc, hms, hn0, hn1, hd2, h1, h2, e1, hI2⟩ := hq G F na hI
  obtain ⟨h', N', k⟩ := next G2 F1 na1 (kc + mc) (ks + ms) hn1 (by omega) (by omega) hI2
  refine ⟨h', N', ?_⟩
  refine aw_ald1 dL_law_973 ?_
  refine aw_ald0 dL_law_974 ?_
  refine aw_ild4 dL_law_975 ?_
  refine aw_iconst dL_law_977 ?_
  refine aw_iadd dL_law_978 ?_
  refine aw_sald dL_law_979 hS (by omega) ⟨by omega, by omega⟩ ?_
  refine aw_SH (As := [hb_r 0, hb_i (f (i + 1))]) (rest := []) dL_law_980 h1 hbYH_strike hbm_L_93 hbs_L_strike (by decide) (hb_ro (by decide) (by decide)) (by omega) (by omega) (fun p hp => by simp at hp; omega) (fun p hp => nomatch hp) ?_
  refine aw_ipu5 dL_law_983 (by decide) ?_
  refine aw_ald2 dL_law_985 ?_
  refine aw_ald0 dL_law_986 ?_
  refine aw_ild4 dL_law_987 ?_
  refine aw_iconst dL_law_989 ?_
  refine aw_iadd dL_law_990 ?_
  refine aw_sald dL_law_991 hS (by omega) ⟨by omega, by omega⟩ ?_
  refine aw_V1n dL_law_992 h2 (by rfl) rfl hbY_X9_strike hbm_L_96 hbi_X9_strike hbe_X9_X9_strike (Nat.le_of_ble_eq_true rfl) (hb_ro hd2 (by decide)) (by omega) (by omega) ?_
  refine aw_ald2 dL_law_995 ?_
  refine aw_V0v dL_law_996 (c_thrown) (by rfl) rfl hbY_X9_thrown hbm_L_71 hbi_X9_thrown hbe_X9_X9_thrown (by decide) (hb_ro (by decide) (by decide)) (by omega) (by omega) ?_
  refine aw_top (c9 := kk) e1 ?_
  refine aw_ild5 dL_law_999 ?_
  refine aw_icmp_eq dL_law_1001 (tg := 1006) (by decide) hk1 hk1 (fun _ => ?_) (fun h9 => absurd rfl h9)
  refine aw_goto dL_law_1006 (tg := 1450) (by decide) ?_
  exact aw_keep (ls := (hb_l5 i)) (ls2 := [hb_i kk]) k
theorem law_count {l : Launch} {I : hb_I} {nm : String} {tb : List ExceptionTableEntry} {E : hb_E} {z0 : Heap} {σ0 : Nat → Nat} {G : hb_G} {F : hb_F} {na kc ks L : Nat} {f : Int → Int} {i : Int} (hS : hb_SC E z0 σ0 L f) (hi : 0 ≤ i ∧ i + 6 ≤ L) (hna : na ≤ 900000) (hkc : kc + 2 ≤ room_1.cells) (hks : ks + 15 ≤ room_1.slots) (hI : I G F na) (hq : hb_stQ l I yX8_count cX8_count 2 (some .int) yX9_count cX9_count 2 (some .int) [hb_i (f (i + 1))])
    (next : ∀ G2, I G2 F na → ∃ h' N', hb_LW l nm tb E z0 σ0 h' N' kc ks 1450 (hb_l5 i) [] (hb_w G2 F na) (77 + na)) : ∃ h' N', hb_LW l nm tb E z0 σ0 h' N' kc ks 1009 (hb_l5 i) [] (hb_w G F na) (77 + na) := by
  obtain ⟨v, G1, G2, d1, d2, hv, hd1, hd2, h1, h2, hI2⟩ := hq G F na hI
  obtain ⟨h', N', k⟩ := next G2 hI2
  refine ⟨h', N', ?_⟩
  refine aw_ald1 dL_law_1009 ?_
  refine aw_ald0 dL_law_1010 ?_
  refine aw_ild4 dL_law_1011 ?_
  refine aw_iconst dL_law_1013 ?_
  refine aw_iadd dL_law_1014 ?_
  refine aw_sald dL_law_1015 hS (by omega) ⟨by omega, by omega⟩ ?_
  refine aw_V1v dL_law_1016 h1 (by rfl) rfl hbY_X8_count hbm_L_97 hbi_X8_count hbe_X8_X8_count (Nat.le_of_ble_eq_true rfl) (hb_ro hd1 (by decide)) (by omega) (by omega) ?_
  refine aw_ald2 dL_law_1019 ?_
  refine aw_ald0 dL_law_1020 ?_
  refine aw_ild4 dL_law_1021 ?_
  refine aw_iconst dL_law_1023 ?_
  refine aw_iadd dL_law_1024 ?_
  refine aw_sald dL_law_1025 hS (by omega) ⟨by omega, by omega⟩ ?_
  refine aw_V1v dL_law_1026 h2 (by rfl) rfl hbY_X9_count hbm_L_101 hbi_X9_count hbe_X9_X9_count (Nat.le_of_ble_eq_true rfl) (hb_ro hd2 (by decide)) (by omega) (by omega) ?_
  refine aw_icmp_eq dL_law_1029 (tg := 1450) (by decide) hv hv (fun _ => ?_) (fun h9 => absurd rfl h9)
  exact k
theorem law_where {l : Launch} {I : hb_I} {nm : String} {tb : List ExceptionTableEntry} {E : hb_E} {z0 : Heap} {σ0 : Nat → Nat} {G : hb_G} {F : hb_F} {na kc ks L : Nat} {f : Int → Int} {i : Int} (hS : hb_SC E z0 σ0 L f) (hi : 0 ≤ i ∧ i + 6 ≤ L) (hna : na ≤ 900000) (hkc : kc + 2 ≤ room_1.cells) (hks : ks + 15 ≤ room_1.slots) (hI : I G F na) (hq : hb_stQ l I yX8_where cX8_where 4 (some .int) yX9_where cX9_where 5 (some .int) [hb_i (f (i + 1)), hb_i (f (i + 2)), hb_i (f (i + 3))])
    (next : ∀ G2, I G2 F na → ∃ h' N', hb_LW l nm tb E z0 σ0 h' N' kc ks 1450 (hb_l5 i) [] (hb_w G2 F na) (77 + na)) : ∃ h' N', hb_LW l nm tb E z0 σ0 h' N' kc ks 1034 (hb_l5 i) [] (hb_w G F na) (77 + na) := by
  obtain ⟨v, G1, G2, d1, d2, hv, hd1, hd2, h1, h2, hI2⟩ := hq G F na hI
  obtain ⟨h', N', k⟩ := next G2 hI2
  refine ⟨h', N', ?_⟩
  refine aw_ald1 dL_law_1034 ?_
  refine aw_ald0 dL_law_1035 ?_
  refine aw_ild4 dL_law_1036 ?_
  refine aw_iconst dL_law_1038 ?_
  refine aw_iadd dL_law_1039 ?_
  refine aw_sald dL_law_1040 hS (by omega) ⟨by omega, by omega⟩ ?_
  refine aw_ald0 dL_law_1041 ?_
  refine aw_ild4 dL_law_1042 ?_
  refine aw_iconst dL_law_1044 ?_
  refine aw_iadd dL_law_1045 ?_
  refine aw_sald dL_law_1046 hS (by omega) ⟨by omega, by omega⟩ ?_
  refine aw_ald0 dL_law_1047 ?_
  refine aw_ild4 dL_law_1048 ?_
  refine aw_iconst dL_law_1050 ?_
  refine aw_iadd dL_law_1051 ?_
  refine aw_sald dL_law_1052 hS (by omega) ⟨by omega, by omega⟩ ?_
  refine aw_V3v dL_law_1053 h1 (by rfl) rfl hbY_X8_where hbm_L_102 hbi_X8_where hbe_X8_X8_where (Nat.le_of_ble_eq_true rfl) (hb_ro hd1 (by decide)) (by omega) (by omega) ?_
  refine aw_ald2 dL_law_1056 ?_
  refine aw_ald0 dL_law_1057 ?_
  refine aw_ild4 dL_law_1058 ?_
  refine aw_iconst dL_law_1060 ?_
  refine aw_iadd dL_law_1061 ?_
  refine aw_sald dL_law_1062 hS (by omega) ⟨by omega, by omega⟩ ?_
  refine aw_ald0 dL_law_1063 ?_
  refine aw_ild4 dL_law_1064 ?_
  refine aw_iconst dL_law_1066 ?_
  refine aw_iadd dL_law_1067 ?_
  refine aw_sald dL_law_1068 hS (by omega) ⟨by omega, by omega⟩ ?_
  refine aw_ald0 dL_law_1069 ?_
  refine aw_ild4 dL_law_1070 ?_
  refine aw_iconst dL_law_1072 ?_
  refine aw_iadd dL_law_1073 ?_
  refine aw_sald dL_law_1074 hS (by omega) ⟨by omega, by omega⟩ ?_
  refine aw_V3v dL_law_1075 h2 (by rfl) rfl hbY_X9_where hbm_L_105 hbi_X9_where hbe_X9_X9_where (Nat.le_of_ble_eq_true rfl) (hb_ro hd2 (by decide)) (by omega) (by omega) ?_
  refine aw_icmp_eq dL_law_1078 (tg := 1450) (by decide) hv hv (fun _ => ?_) (fun h9 => absurd rfl h9)
  exact k
theorem law_at {l : Launch} {I : hb_I} {nm : String} {tb : List ExceptionTableEntry} {E : hb_E} {z0 : Heap} {σ0 : Nat → Nat} {G : hb_G} {F : hb_F} {na kc ks L : Nat} {f : Int → Int} {i : Int} (hS : hb_SC E z0 σ0 L f) (hi : 0 ≤ i ∧ i + 6 ≤ L) (hna : na ≤ 900000) (hkc : kc + 2 ≤ room_1.cells) (hks : ks + 15 ≤ room_1.slots) (hI : I G F na) (hq : hb_stQ l I yX8_at cX8_at 4 (some .int) yX9_at cX9_at 5 (some .int) [hb_i (f (i + 1)), hb_i (f (i + 2)), hb_i (f (i + 3))])
    (next : ∀ G2, I G2 F na → ∃ h' N', hb_LW l nm tb E z0 σ0 h' N' kc ks 1450 (hb_l5 i) [] (hb_w G2 F na) (77 + na)) : ∃ h' N', hb_LW l nm tb E z0 σ0 h' N' kc ks 1083 (hb_l5 i) [] (hb_w G F na) (77 + na) := by
  obtain ⟨v, G1, G2, d1, d2, hv, hd1, hd2, h1, h2, hI2⟩ := hq G F na hI
  obtain ⟨h', N', k⟩ := next G2 hI2
  refine ⟨h', N', ?_⟩
  refine aw_ald1 dL_law_1083 ?_
  refine aw_ald0 dL_law_1084 ?_
  refine aw_ild4 dL_law_1085 ?_
  refine aw_iconst dL_law_1087 ?_
  refine aw_iadd dL_law_1088 ?_
  refine aw_sald dL_law_1089 hS (by omega) ⟨by omega, by omega⟩ ?_
  refine aw_ald0 dL_law_1090 ?_
  refine aw_ild4 dL_law_1091 ?_
  refine aw_iconst dL_law_1093 ?_
  refine aw_iadd dL_law_1094 ?_
  refine aw_sald dL_law_1095 hS (by omega) ⟨by omega, by omega⟩ ?_
  refine aw_ald0 dL_law_1096 ?_
  refine aw_ild4 dL_law_1097 ?_
  refine aw_iconst dL_law_1099 ?_
  refine aw_iadd dL_law_1100 ?_
  refine aw_sald dL_law_1101 hS (by omega) ⟨by omega, by omega⟩ ?_
  refine aw_V3v dL_law_1102 h1 (by rfl) rfl hbY_X8_at hbm_L_106 hbi_X8_at hbe_X8_X8_at (Nat.le_of_ble_eq_true rfl) (hb_ro hd1 (by decide)) (by omega) (by omega) ?_
  refine aw_ald2 dL_law_1105 ?_
  refine aw_ald0 dL_law_1106 ?_
  refine aw_ild4 dL_law_1107 ?_
  refine aw_iconst dL_law_1109 ?_
  refine aw_iadd dL_law_1110 ?_
  refine aw_sald dL_law_1111 hS (by omega) ⟨by omega, by omega⟩ ?_
  refine aw_ald0 dL_law_1112 ?_
  refine aw_ild4 dL_law_1113 ?_
  refine aw_iconst dL_law_1115 ?_
  refine aw_iadd dL_law_1116 ?_
  refine aw_sald dL_law_1117 hS (by omega) ⟨by omega, by omega⟩ ?_
  refine aw_ald0 dL_law_1118 ?_
  refine aw_ild4 dL_law_1119 ?_
  refine aw_iconst dL_law_1121 ?_
  refine aw_iadd dL_law_1122 ?_
  refine aw_sald dL_law_1123 hS (by omega) ⟨by omega, by omega⟩ ?_
  refine aw_V3v dL_law_1124 h2 (by rfl) rfl hbY_X9_at hbm_L_109 hbi_X9_at hbe_X9_X9_at (Nat.le_of_ble_eq_true rfl) (hb_ro hd2 (by decide)) (by omega) (by omega) ?_
  refine aw_icmp_eq dL_law_1127 (tg := 1450) (by decide) hv hv (fun _ => ?_) (fun h9 => absurd rfl h9)
  exact k
theorem law_counter {l : Launch} {I : hb_I} {nm : String} {tb : List ExceptionTableEntry} {E : hb_E} {z0 : Heap} {σ0 : Nat → Nat} {G : hb_G} {F : hb_F} {na kc ks L : Nat} {f : Int → Int} {i : Int} (hS : hb_SC E z0 σ0 L f) (hi : 0 ≤ i ∧ i + 6 ≤ L) (hna : na ≤ 900000) (hkc : kc + 2 ≤ room_1.cells) (hks : ks + 15 ≤ room_1.slots) (hI : I G F na) (hq : hb_stQ l I yX8_counter cX8_counter 4 (some .int) yX9_counter cX9_counter 4 (some .int) [hb_i (f (i + 1)), hb_i (f (i + 2)), hb_i (f (i + 3))])
    (next : ∀ G2, I G2 F na → ∃ h' N', hb_LW l nm tb E z0 σ0 h' N' kc ks 1450 (hb_l5 i) [] (hb_w G2 F na) (77 + na)) : ∃ h' N', hb_LW l nm tb E z0 σ0 h' N' kc ks 1132 (hb_l5 i) [] (hb_w G F na) (77 + na) := by
  obtain ⟨v, G1, G2, d1, d2, hv, hd1, hd2, h1, h2, hI2⟩ := hq G F na hI
  obtain ⟨h', N', k⟩ := next G2 hI2
  refine ⟨h', N', ?_⟩
  refine aw_ald1 dL_law_1132 ?_
  refine aw_ald0 dL_law_1133 ?_
  refine aw_ild4 dL_law_1134 ?_
  refine aw_iconst dL_law_1136 ?_
  refine aw_iadd dL_law_1137 ?_
  refine aw_sald dL_law_1138 hS (by omega) ⟨by omega, by omega⟩ ?_
  refine aw_ald0 dL_law_1139 ?_
  refine aw_ild4 dL_law_1140 ?_
  refine aw_iconst dL_law_1142 ?_
  refine aw_iadd dL_law_1143 ?_
  refine aw_sald dL_law_1144 hS (by omega) ⟨by omega, by omega⟩ ?_
  refine aw_ald0 dL_law_1145 ?_
  refine aw_ild4 dL_law_1146 ?_
  refine aw_iconst dL_law_1148 ?_
  refine aw_iadd dL_law_1149 ?_
  refine aw_sald dL_law_1150 hS (by omega) ⟨by omega, by omega⟩ ?_
  refine aw_V3v dL_law_1151 h1 (by rfl) rfl hbY_X8_counter hbm_L_110 hbi_X8_counter hbe_X8_X8_counter (Nat.le_of_ble_eq_true rfl) (hb_ro hd1 (by decide)) (by omega) (by omega) ?_
  refine aw_ald2 dL_law_1154 ?_
  refine aw_ald0 dL_law_1155 ?_
  refine aw_ild4 dL_law_1156 ?_
  refine aw_iconst dL_law_1158 ?_
  refine aw_iadd dL_law_1159 ?_
  refine aw_sald dL_law_1160 hS (by omega) ⟨by omega, by omega⟩ ?_
  refine aw_ald0 dL_law_1161 ?_
  refine aw_ild4 dL_law_1162 ?_
  refine aw_iconst dL_law_1164 ?_
  refine aw_iadd dL_law_1165 ?_
  refine aw_sald dL_law_1166 hS (by omega) ⟨by omega, by omega⟩ ?_
  refine aw_ald0 dL_law_1167 ?_
  refine aw_ild4 dL_law_1168 ?_
  refine aw_iconst dL_law_1170 ?_
  refine aw_iadd dL_law_1171 ?_
  refine aw_sald dL_law_1172 hS (by omega) ⟨by omega, by omega⟩ ?_
  refine aw_V3v dL_law_1173 h2 (by rfl) rfl hbY_X9_counter hbm_L_113 hbi_X9_counter hbe_X9_X9_counter (Nat.le_of_ble_eq_true rfl) (hb_ro hd2 (by decide)) (by omega) (by omega) ?_
  refine aw_icmp_eq dL_law_1176 (tg := 1450) (by decide) hv hv (fun _ => ?_) (fun h9 => absurd rfl h9)
  exact k
theorem law_due {l : Launch} {I : hb_I} {nm : String} {tb : List ExceptionTableEntry} {E : hb_E} {z0 : Heap} {σ0 : Nat → Nat} {G : hb_G} {F : hb_F} {na kc ks L : Nat} {f : Int → Int} {i : Int} (hS : hb_SC E z0 σ0 L f) (hi : 0 ≤ i ∧ i + 6 ≤ L) (hna : na ≤ 900000) (hkc : kc + 2 ≤ room_1.cells) (hks : ks + 15 ≤ room_1.slots) (hI : I G F na) (hq : hb_stQ l I yX8_due cX8_due 5 (some .int) yX9_due cX9_due 5 (some .int) [hb_i (f (i + 1)), hb_i (f (i + 2)), hb_i (f (i + 3)), hb_i (f (i + 4))])
    (next : ∀ G2, I G2 F na → ∃ h' N', hb_LW l nm tb E z0 σ0 h' N' kc ks 1450 (hb_l5 i) [] (hb_w G2 F na) (77 + na)) : ∃ h' N', hb_LW l nm tb E z0 σ0 h' N' kc ks 1181 (hb_l5 i) [] (hb_w G F na) (77 + na) := by
  obtain ⟨v, G1, G2, d1, d2, hv, hd1, hd2, h1, h2, hI2⟩ := hq G F na hI
  obtain ⟨h', N', k⟩ := next G2 hI2
  refine ⟨h', N', ?_⟩
  refine aw_ald1 dL_law_1181 ?_
  refine aw_ald0 dL_law_1182 ?_
  refine aw_ild4 dL_law_1183 ?_
  refine aw_iconst dL_law_1185 ?_
  refine aw_iadd dL_law_1186 ?_
  refine aw_sald dL_law_1187 hS (by omega) ⟨by omega, by omega⟩ ?_
  refine aw_ald0 dL_law_1188 ?_
  refine aw_ild4 dL_law_1189 ?_
  refine aw_iconst dL_law_1191 ?_
  refine aw_iadd dL_law_1192 ?_
  refine aw_sald dL_law_1193 hS (by omega) ⟨by omega, by omega⟩ ?_
  refine aw_ald0 dL_law_1194 ?_
  refine aw_ild4 dL_law_1195 ?_
  refine aw_iconst dL_law_1197 ?_
  refine aw_iadd dL_law_1198 ?_
  refine aw_sald dL_law_1199 hS (by omega) ⟨by omega, by omega⟩ ?_
  refine aw_ald0 dL_law_1200 ?_
  refine aw_ild4 dL_law_1201 ?_
  refine aw_iconst dL_law_1203 ?_
  refine aw_iadd dL_law_1204 ?_
  refine aw_sald dL_law_1205 hS (by omega) ⟨by omega, by omega⟩ ?_
  refine aw_V4v dL_law_1206 h1 (by rfl) rfl hbY_X8_due hbm_L_114 hbi_X8_due hbe_X8_X8_due (Nat.le_of_ble_eq_true rfl) (hb_ro hd1 (by decide)) (by omega) (by omega) ?_
  refine aw_ald2 dL_law_1209 ?_
  refine aw_ald0 dL_law_1210 ?_
  refine aw_ild4 dL_law_1211 ?_
  refine aw_iconst dL_law_1213 ?_
  refine aw_iadd dL_law_1214 ?_
  refine aw_sald dL_law_1215 hS (by omega) ⟨by omega, by omega⟩ ?_
  refine aw_ald0 dL_law_1216 ?_
  refine aw_ild4 dL_law_1217 ?_
  refine aw_iconst dL_law_1219 ?_
  refine aw_iadd dL_law_1220 ?_
  refine aw_sald dL_law_1221 hS (by omega) ⟨by omega, by omega⟩ ?_
  refine aw_ald0 dL_law_1222 ?_
  refine aw_ild4 dL_law_1223 ?_
  refine aw_iconst dL_law_1225 ?_
  refine aw_iadd dL_law_1226 ?_
  refine aw_sald dL_law_1227 hS (by omega) ⟨by omega, by omega⟩ ?_
  refine aw_ald0 dL_law_1228 ?_
  refine aw_ild4 dL_law_1229 ?_
  refine aw_iconst dL_law_1231 ?_
  refine aw_iadd dL_law_1232 ?_
  refine aw_sald dL_law_1233 hS (by omega) ⟨by omega, by omega⟩ ?_
  refine aw_V4v dL_law_1234 h2 (by rfl) rfl hbY_X9_due hbm_L_117 hbi_X9_due hbe_X9_X9_due (Nat.le_of_ble_eq_true rfl) (hb_ro hd2 (by decide)) (by omega) (by omega) ?_
  refine aw_icmp_eq dL_law_1237 (tg := 1450) (by decide) hv hv (fun _ => ?_) (fun h9 => absurd rfl h9)
  exact k
theorem law_asked {l : Launch} {I : hb_I} {nm : String} {tb : List ExceptionTableEntry} {E : hb_E} {z0 : Heap} {σ0 : Nat → Nat} {G : hb_G} {F : hb_F} {na kc ks L : Nat} {f : Int → Int} {i : Int} (hS : hb_SC E z0 σ0 L f) (hi : 0 ≤ i ∧ i + 6 ≤ L) (hna : na ≤ 900000) (hkc : kc + 2 ≤ room_1.cells) (hks : ks + 15 ≤ room_1.slots) (hI : I G F na) (hq : hb_stQ l I yX8_asked cX8_asked 4 (some .int) yX9_asked cX9_asked 5 (some .int) [hb_i (f (i + 1)), hb_i (f (i + 2)), hb_i (f (i + 3))])
    (next : ∀ G2, I G2 F na → ∃ h' N', hb_LW l nm tb E z0 σ0 h' N' kc ks 1450 (hb_l5 i) [] (hb_w G2 F na) (77 + na)) : ∃ h' N', hb_LW l nm tb E z0 σ0 h' N' kc ks 1242 (hb_l5 i) [] (hb_w G F na) (77 + na) := by
  obtain ⟨v, G1, G2, d1, d2, hv, hd1, hd2, h1, h2, hI2⟩ := hq G F na hI
  obtain ⟨h', N', k⟩ := next G2 hI2
  refine ⟨h', N', ?_⟩
  refine aw_ald1 dL_law_1242 ?_
  refine aw_ald0 dL_law_1243 ?_
  refine aw_ild4 dL_law_1244 ?_
  refine aw_iconst dL_law_1246 ?_
  refine aw_iadd dL_law_1247 ?_
  refine aw_sald dL_law_1248 hS (by omega) ⟨by omega, by omega⟩ ?_
  refine aw_ald0 dL_law_1249 ?_
  refine aw_ild4 dL_law_1250 ?_
  refine aw_iconst dL_law_1252 ?_
  refine aw_iadd dL_law_1253 ?_
  refine aw_sald dL_law_1254 hS (by omega) ⟨by omega, by omega⟩ ?_
  refine aw_ald0 dL_law_1255 ?_
  refine aw_ild4 dL_law_1256 ?_
  refine aw_iconst dL_law_1258 ?_
  refine aw_iadd dL_law_1259 ?_
  refine aw_sald dL_law_1260 hS (by omega) ⟨by omega, by omega⟩ ?_
  refine aw_V3v dL_law_1261 h1 (by rfl) rfl hbY_X8_asked hbm_L_118 hbi_X8_asked hbe_X8_X8_asked (Nat.le_of_ble_eq_true rfl) (hb_ro hd1 (by decide)) (by omega) (by omega) ?_
  refine aw_ald2 dL_law_1264 ?_
  refine aw_ald0 dL_law_1265 ?_
  refine aw_ild4 dL_law_1266 ?_
  refine aw_iconst dL_law_1268 ?_
  refine aw_iadd dL_law_1269 ?_
  refine aw_sald dL_law_1270 hS (by omega) ⟨by omega, by omega⟩ ?_
  refine aw_ald0 dL_law_1271 ?_
  refine aw_ild4 dL_law_1272 ?_
  refine aw_iconst dL_law_1274 ?_
  refine aw_iadd dL_law_1275 ?_
  refine aw_sald dL_law_1276 hS (by omega) ⟨by omega, by omega⟩ ?_
  refine aw_ald0 dL_law_1277 ?_
  refine aw_ild4 dL_law_1278 ?_
  refine aw_iconst dL_law_1280 ?_
  refine aw_iadd dL_law_1281 ?_
  refine aw_sald dL_law_1282 hS (by omega) ⟨by omega, by omega⟩ ?_
  refine aw_V3v dL_law_1283 h2 (by rfl) rfl hbY_X9_asked hbm_L_121 hbi_X9_asked hbe_X9_X9_asked (Nat.le_of_ble_eq_true rfl) (hb_ro hd2 (by decide)) (by omega) (by omega) ?_
  refine aw_icmp_eq dL_law_1286 (tg := 1450) (by decide) hv hv (fun _ => ?_) (fun h9 => absurd rfl h9)
  exact k
theorem law_open {l : Launch} {I : hb_I} {nm : String} {tb : List ExceptionTableEntry} {E : hb_E} {z0 : Heap} {σ0 : Nat → Nat} {G : hb_G} {F : hb_F} {na kc ks L : Nat} {f : Int → Int} {i : Int} (hS : hb_SC E z0 σ0 L f) (hi : 0 ≤ i ∧ i + 6 ≤ L) (hna : na ≤ 900000) (hkc : kc + 2 ≤ room_1.cells) (hks : ks + 15 ≤ room_1.slots) (hI : I G F na) (hq : hb_stQ l I yX8_open cX8_open 7 (some .int) yX9_open cX9_open 9 (some .int) [hb_i (f (i + 1)), hb_i (f (i + 2)), hb_i (f (i + 3))])
    (next : ∀ G2, I G2 F na → ∃ h' N', hb_LW l nm tb E z0 σ0 h' N' kc ks 1450 (hb_l5 i) [] (hb_w G2 F na) (77 + na)) : ∃ h' N', hb_LW l nm tb E z0 σ0 h' N' kc ks 1291 (hb_l5 i) [] (hb_w G F na) (77 + na) := by
  obtain ⟨v, G1, G2, d1, d2, hv, hd1, hd2, h1, h2, hI2⟩ := hq G F na hI
  obtain ⟨h', N', k⟩ := next G2 hI2
  refine ⟨h', N', ?_⟩
  refine aw_ald1 dL_law_1291 ?_
  refine aw_ald0 dL_law_1292 ?_
  refine aw_ild4 dL_law_1293 ?_
  refine aw_iconst dL_law_1295 ?_
  refine aw_iadd dL_law_1296 ?_
  refine aw_sald dL_law_1297 hS (by omega) ⟨by omega, by omega⟩ ?_
  refine aw_ald0 dL_law_1298 ?_
  refine aw_ild4 dL_law_1299 ?_
  refine aw_iconst dL_law_1301 ?_
  refine aw_iadd dL_law_1302 ?_
  refine aw_sald dL_law_1303 hS (by omega) ⟨by omega, by omega⟩ ?_
  refine aw_ald0 dL_law_1304 ?_
  refine aw_ild4 dL_law_1305 ?_
  refine aw_iconst dL_law_1307 ?_
  refine aw_iadd dL_law_1308 ?_
  refine aw_sald dL_law_1309 hS (by omega) ⟨by omega, by omega⟩ ?_
  refine aw_V3v dL_law_1310 h1 (by rfl) rfl hbY_X8_open hbm_L_122 hbi_X8_open hbe_X8_X8_open (Nat.le_of_ble_eq_true rfl) (hb_ro hd1 (by decide)) (by omega) (by omega) ?_
  refine aw_ald2 dL_law_1313 ?_
  refine aw_ald0 dL_law_1314 ?_
  refine aw_ild4 dL_law_1315 ?_
  refine aw_iconst dL_law_1317 ?_
  refine aw_iadd dL_law_1318 ?_
  refine aw_sald dL_law_1319 hS (by omega) ⟨by omega, by omega⟩ ?_
  refine aw_ald0 dL_law_1320 ?_
  refine aw_ild4 dL_law_1321 ?_
  refine aw_iconst dL_law_1323 ?_
  refine aw_iadd dL_law_1324 ?_
  refine aw_sald dL_law_1325 hS (by omega) ⟨by omega, by omega⟩ ?_
  refine aw_ald0 dL_law_1326 ?_
  refine aw_ild4 dL_law_1327 ?_
  refine aw_iconst dL_law_1329 ?_
  refine aw_iadd dL_law_1330 ?_
  refine aw_sald dL_law_1331 hS (by omega) ⟨by omega, by omega⟩ ?_
  refine aw_V3v dL_law_1332 h2 (by rfl) rfl hbY_X9_open hbm_L_125 hbi_X9_open hbe_X9_X9_open (Nat.le_of_ble_eq_true rfl) (hb_ro hd2 (by decide)) (by omega) (by omega) ?_
  refine aw_icmp_eq dL_law_1335 (tg := 1450) (by decide) hv hv (fun _ => ?_) (fun h9 => absurd rfl h9)
  exact k
theorem law_grounded {l : Launch} {I : hb_I} {nm : String} {tb : List ExceptionTableEntry} {E : hb_E} {z0 : Heap} {σ0 : Nat → Nat} {G : hb_G} {F : hb_F} {na kc ks L : Nat} {f : Int → Int} {i : Int} (hS : hb_SC E z0 σ0 L f) (hi : 0 ≤ i ∧ i + 6 ≤ L) (hna : na ≤ 900000) (hkc : kc + 2 ≤ room_1.cells) (hks : ks + 15 ≤ room_1.slots) (hI : I G F na) (hq : hb_stQ l I yX8_grounded cX8_grounded 4 (some .int) yX9_grounded cX9_grounded 6 (some .int) [hb_i (f (i + 1)), hb_i (f (i + 2))])
    (next : ∀ G2, I G2 F na → ∃ h' N', hb_LW l nm tb E z0 σ0 h' N' kc ks 1450 (hb_l5 i) [] (hb_w G2 F na) (77 + na)) : ∃ h' N', hb_LW l nm tb E z0 σ0 h' N' kc ks 1340 (hb_l5 i) [] (hb_w G F na) (77 + na) := by
  obtain ⟨v, G1, G2, d1, d2, hv, hd1, hd2, h1, h2, hI2⟩ := hq G F na hI
  obtain ⟨h', N', k⟩ := next G2 hI2
  refine ⟨h', N', ?_⟩
  refine aw_ald1 dL_law_1340 ?_
  refine aw_ald0 dL_law_1341 ?_
  refine aw_ild4 dL_law_1342 ?_
  refine aw_iconst dL_law_1344 ?_
  refine aw_iadd dL_law_1345 ?_
  refine aw_sald dL_law_1346 hS (by omega) ⟨by omega, by omega⟩ ?_
  refine aw_ald0 dL_law_1347 ?_
  refine aw_ild4 dL_law_1348 ?_
  refine aw_iconst dL_law_1350 ?_
  refine aw_iadd dL_law_1351 ?_
  refine aw_sald dL_law_1352 hS (by omega) ⟨by omega, by omega⟩ ?_
  refine aw_V2v dL_law_1353 h1 (by rfl) rfl hbY_X8_grounded hbm_L_126 hbi_X8_grounded hbe_X8_X8_grounded (Nat.le_of_ble_eq_true rfl) (hb_ro hd1 (by decide)) (by omega) (by omega) ?_
  refine aw_ald2 dL_law_1356 ?_
  refine aw_ald0 dL_law_1357 ?_
  refine aw_ild4 dL_law_1358 ?_
  refine aw_iconst dL_law_1360 ?_
  refine aw_iadd dL_law_1361 ?_
  refine aw_sald dL_law_1362 hS (by omega) ⟨by omega, by omega⟩ ?_
  refine aw_ald0 dL_law_1363 ?_
  refine aw_ild4 dL_law_1364 ?_
  refine aw_iconst dL_law_1366 ?_
  refine aw_iadd dL_law_1367 ?_
  refine aw_sald dL_law_1368 hS (by omega) ⟨by omega, by omega⟩ ?_
  refine aw_V2v dL_law_1369 h2 (by rfl) rfl hbY_X9_grounded hbm_L_129 hbi_X9_grounded hbe_X9_X9_grounded (Nat.le_of_ble_eq_true rfl) (hb_ro hd2 (by decide)) (by omega) (by omega) ?_
  refine aw_icmp_eq dL_law_1372 (tg := 1450) (by decide) hv hv (fun _ => ?_) (fun h9 => absurd rfl h9)
  exact k
theorem law_forecast {l : Launch} {I : hb_I} {nm : String} {tb : List ExceptionTableEntry} {E : hb_E} {z0 : Heap} {σ0 : Nat → Nat} {G : hb_G} {F : hb_F} {na kc ks L : Nat} {f : Int → Int} {i : Int} (hS : hb_SC E z0 σ0 L f) (hi : 0 ≤ i ∧ i + 6 ≤ L) (hna : na ≤ 900000) (hkc : kc + 2 ≤ room_1.cells) (hks : ks + 15 ≤ room_1.slots) (hI : I G F na) (hq : hb_stQ l I yX8_forecast cX8_forecast 8 (some .int) yX9_forecast cX9_forecast 12 (some .int) [hb_i (f (i + 1)), hb_i (f (i + 2)), hb_i (f (i + 3)), hb_i (f (i + 4)), hb_i (f (i + 5))])
    (next : ∀ G2, I G2 F na → ∃ h' N', hb_LW l nm tb E z0 σ0 h' N' kc ks 1450 (hb_l5 i) [] (hb_w G2 F na) (77 + na)) : ∃ h' N', hb_LW l nm tb E z0 σ0 h' N' kc ks 1377 (hb_l5 i) [] (hb_w G F na) (77 + na) := by
  obtain ⟨v, G1, G2, d1, d2, hv, hd1, hd2, h1, h2, hI2⟩ := hq G F na hI
  obtain ⟨h', N', k⟩ := next G2 hI2
  refine ⟨h', N', ?_⟩
  refine aw_ald1 dL_law_1377 ?_
  refine aw_ald0 dL_law_1378 ?_
  refine aw_ild4 dL_law_1379 ?_
  refine aw_iconst dL_law_1381 ?_
  refine aw_iadd dL_law_1382 ?_
  refine aw_sald dL_law_1383 hS (by omega) ⟨by omega, by omega⟩ ?_
  refine aw_ald0 dL_law_1384 ?_
  refine aw_ild4 dL_law_1385 ?_
  refine aw_iconst dL_law_1387 ?_
  refine aw_iadd dL_law_1388 ?_
  refine aw_sald dL_law_1389 hS (by omega) ⟨by omega, by omega⟩ ?_
  refine aw_ald0 dL_law_1390 ?_
  refine aw_ild4 dL_law_1391 ?_
  refine aw_iconst dL_law_1393 ?_
  refine aw_iadd dL_law_1394 ?_
  refine aw_sald dL_law_1395 hS (by omega) ⟨by omega, by omega⟩ ?_
  refine aw_ald0 dL_law_1396 ?_
  refine aw_ild4 dL_law_1397 ?_
  refine aw_iconst dL_law_1399 ?_
  refine aw_iadd dL_law_1400 ?_
  refine aw_sald dL_law_1401 hS (by omega) ⟨by omega, by omega⟩ ?_
  refine aw_ald0 dL_law_1402 ?_
  refine aw_ild4 dL_law_1403 ?_
  refine aw_iconst dL_law_1405 ?_
  refine aw_iadd dL_law_1406 ?_
  refine aw_sald dL_law_1407 hS (by omega) ⟨by omega, by omega⟩ ?_
  refine aw_V5v dL_law_1408 h1 (by rfl) rfl hbY_X8_forecast hbm_L_130 hbi_X8_forecast hbe_X8_X8_forecast (Nat.le_of_ble_eq_true rfl) (hb_ro hd1 (by decide)) (by omega) (by omega) ?_
  refine aw_ald2 dL_law_1411 ?_
  refine aw_ald0 dL_law_1412 ?_
  refine aw_ild4 dL_law_1413 ?_
  refine aw_iconst dL_law_1415 ?_
  refine aw_iadd dL_law_1416 ?_
  refine aw_sald dL_law_1417 hS (by omega) ⟨by omega, by omega⟩ ?_
  refine aw_ald0 dL_law_1418 ?_
  refine aw_ild4 dL_law_1419 ?_
  refine aw_iconst dL_law_1421 ?_
  refine aw_iadd dL_law_1422 ?_
  refine aw_sald dL_law_1423 hS (by omega) ⟨by omega, by omega⟩ ?_
  refine aw_ald0 dL_law_1424 ?_
  refine aw_ild4 dL_law_1425 ?_
  refine aw_iconst dL_law_1427 ?_
  refine aw_iadd dL_law_1428 ?_
  refine aw_sald dL_law_1429 hS (by omega) ⟨by omega, by omega⟩ ?_
  refine aw_ald0 dL_law_1430 ?_
  refine aw_ild4 dL_law_1431 ?_
  refine aw_iconst dL_law_1433 ?_
  refine aw_iadd dL_law_1434 ?_
  refine aw_sald dL_law_1435 hS (by omega) ⟨by omega, by omega⟩ ?_
  refine aw_ald0 dL_law_1436 ?_
  refine aw_ild4 dL_law_1437 ?_
  refine aw_iconst dL_law_1439 ?_
  refine aw_iadd dL_law_1440 ?_
  refine aw_sald dL_law_1441 hS (by omega) ⟨by omega, by omega⟩ ?_
  refine aw_V5v dL_law_1442 h2 (by rfl) rfl hbY_X9_forecast hbm_L_133 hbi_X9_forecast hbe_X9_X9_forecast (Nat.le_of_ble_eq_true rfl) (hb_ro hd2 (by decide)) (by omega) (by omega) ?_
  refine aw_icmp_eq dL_law_1445 (tg := 1450) (by decide) hv hv (fun _ => ?_) (fun h9 => absurd rfl h9)
  exact k
theorem hb_31 (x : Int) : 0 ≤ (Int32.ofInt x &&& Int32.ofInt 31).toInt ∧ (Int32.ofInt x &&& Int32.ofInt 31).toInt < 32 := by
  have h1 : (Int32.ofInt x &&& Int32.ofInt 31).toBitVec = (Int32.ofInt x).toBitVec &&& (31#32) := rfl
  have h2 : (Int32.ofInt x &&& Int32.ofInt 31).toInt = ((Int32.ofInt x).toBitVec &&& (31#32)).toInt := rfl
  rw [h2]
  have h3 : ((Int32.ofInt x).toBitVec &&& (31#32)).toNat ≤ 31 := by
    rw [BitVec.toNat_and]
    exact Nat.and_le_right
  rw [BitVec.toInt_eq_toNat_of_lt (by omega)]
  omega
theorem law_exit {l : Launch} {nm : String} {tb : List ExceptionTableEntry} {E : hb_E} {z0 : Heap} {σ0 : Nat → Nat} {h : hb_H} {N kc ks L : Nat} {f : Int → Int} {i : Int} (hS : hb_SC E z0 σ0 L f) (hi : 0 ≤ i ∧ i ≤ 4000) (hx : L < i + 6) (hN : N ≤ 1000000) (hkc : kc ≤ room_1.cells) (hks : ks ≤ room_1.slots) : hb_LW l nm tb E z0 σ0 h N kc ks 23 (hb_l5 i) [] h N := by
  have hL := hS.1
  refine aw_ild4 dL_law_23 ?_
  refine aw_ald0 dL_law_25 ?_
  refine aw_slen dL_law_26 hS hN ?_
  refine aw_bipush dL_law_27 (by decide) ?_
  refine aw_isub dL_law_29 ?_
  refine aw_icmp_gt dL_law_30 (tg := 1456) (by decide) (by constructor <;> omega) (by constructor <;> omega) (fun _ => ?_) (fun h9 => by omega)
  refine aw_iconst dL_law_1456 ?_
  exact aw_zret dL_law_1457 rfl (Or.inr rfl) rfl rfl rfl hkc hks
theorem law_head {l : Launch} {nm : String} {tb : List ExceptionTableEntry} {E : hb_E} {z0 : Heap} {σ0 : Nat → Nat} {h' h : hb_H} {N' N kc ks L : Nat} {f : Int → Int} {i c off : Int} {tg : Nat} (hS : hb_SC E z0 σ0 L f) (hi : 0 ≤ i ∧ i ≤ 4000) (hx : i + 6 ≤ L) (hN : N ≤ 1000000) (hc : 0 ≤ c ∧ c ≤ 20) (hr : (Int32.ofInt (f i) &&& Int32.ofInt 31).toInt = c) (ho : (#[100, 149, 222, 295, 368, 417, 509, 601, 669, 749, 853, 933, 969, 994, 1043, 1092, 1141, 1202, 1251, 1300, 1337] : Array Int)[(c - 0).toNat]? = some off) (ht : ((40 : Nat) : Int) + off = (tg : Int)) (k : hb_LW l nm tb E z0 σ0 h' N' kc ks tg (hb_l5 i) [] h N) : hb_LW l nm tb E z0 σ0 h' N' kc ks 23 (hb_l5 i) [] h N := by
  have hL := hS.1
  refine aw_ild4 dL_law_23 ?_
  refine aw_ald0 dL_law_25 ?_
  refine aw_slen dL_law_26 hS hN ?_
  refine aw_bipush dL_law_27 (by decide) ?_
  refine aw_isub dL_law_29 ?_
  refine aw_icmp_gt dL_law_30 (tg := 1456) (by decide) (by constructor <;> omega) (by constructor <;> omega) (fun h9 => by omega) (fun _ => ?_)
  refine aw_ald0 dL_law_33 ?_
  refine aw_ild4 dL_law_34 ?_
  refine aw_sald dL_law_36 hS hN ⟨by omega, by omega⟩ ?_
  refine aw_bipush dL_law_37 (by decide) ?_
  refine aw_iand dL_law_39 ?_
  refine aw_top (c9 := c) hr ?_
  exact aw_tableIn dL_law_40 (by constructor <;> omega) hc.1 hc.2 ho ht k
theorem law_headX {l : Launch} {nm : String} {tb : List ExceptionTableEntry} {E : hb_E} {z0 : Heap} {σ0 : Nat → Nat} {h' h : hb_H} {N' N kc ks L : Nat} {f : Int → Int} {i c : Int} (hS : hb_SC E z0 σ0 L f) (hi : 0 ≤ i ∧ i ≤ 4000) (hx : i + 6 ≤ L) (hN : N ≤ 1000000) (hr : (Int32.ofInt (f i) &&& Int32.ofInt 31).toInt = c) (hc : 20 < c ∧ c < 32) (k : hb_LW l nm tb E z0 σ0 h' N' kc ks 1450 (hb_l5 i) [] h N) : hb_LW l nm tb E z0 σ0 h' N' kc ks 23 (hb_l5 i) [] h N := by
  have hL := hS.1
  refine aw_ild4 dL_law_23 ?_
  refine aw_ald0 dL_law_25 ?_
  refine aw_slen dL_law_26 hS hN ?_
  refine aw_bipush dL_law_27 (by decide) ?_
  refine aw_isub dL_law_29 ?_
  refine aw_icmp_gt dL_law_30 (tg := 1456) (by decide) (by constructor <;> omega) (by constructor <;> omega) (fun h9 => by omega) (fun _ => ?_)
  refine aw_ald0 dL_law_33 ?_
  refine aw_ild4 dL_law_34 ?_
  refine aw_sald dL_law_36 hS hN ⟨by omega, by omega⟩ ?_
  refine aw_bipush dL_law_37 (by decide) ?_
  refine aw_iand dL_law_39 ?_
  refine aw_top (c9 := c) hr ?_
  exact aw_tableOut dL_law_40 (by constructor <;> omega) (Or.inr (by omega)) (tg := 1450) (by decide) k
theorem law_back {l : Launch} {nm : String} {tb : List ExceptionTableEntry} {E : hb_E} {z0 : Heap} {σ0 : Nat → Nat} {h' h : hb_H} {N' N kc ks : Nat} {i : Int} (k : hb_LW l nm tb E z0 σ0 h' N' kc ks 23 (hb_l5 (i + 6)) [] h N) : hb_LW l nm tb E z0 σ0 h' N' kc ks 1450 (hb_l5 i) [] h N := by
  refine aw_iinc4 dL_law_1450 (by decide) ?_
  exact aw_goto dL_law_1453 (tg := 23) (by decide) k
def hb_Steps (l : Launch) (I : hb_I) : Prop := ∀ g : Int → Int, (∀ j, hb_in (g j)) →
  (hb_stQ l I yX8_place cX8_place 5 (some .boolean) yX9_place cX9_place 4 (some .boolean) [hb_i (g 1), hb_i (g 2), hb_i (g 3)])
  ∧ (hb_stQ l I yX8_thing cX8_thing 6 (some .boolean) yX9_thing cX9_thing 6 (some .boolean) [hb_i (g 1), hb_i (g 2), hb_i (g 3), hb_i (g 4), hb_i (g 5)])
  ∧ (hb_stQ l I yX8_task cX8_task 8 (some .boolean) yX9_task cX9_task 6 (some .boolean) [hb_i (g 1), hb_i (g 2), hb_i (g 3), hb_i (g 4), hb_i (g 5)])
  ∧ (hb_stQ l I yX8_order cX8_order 8 (some .boolean) yX9_order cX9_order 6 (some .boolean) [hb_i (g 1), hb_i (g 2), hb_i (g 3), hb_i (g 4), hb_i (g 5)])
  ∧ (hb_stQ l I yX8_life cX8_life 4 (some .boolean) yX9_life cX9_life 4 (some .boolean) [hb_i (g 1), hb_i (g 2), hb_i (g 3)])
  ∧ (hb_stE l I yL_flight cL_flight 7 [(0, 14, 17, 13), (0, 14, 21, 15)] yX9_flight cX9_flight 7 [hb_i (g 1), hb_i (g 2), hb_i (g 3), hb_i (g 4)])
  ∧ (hb_stE l I yL_put cL_put 7 [(0, 14, 17, 13), (0, 14, 21, 15)] yX9_put cX9_put 5 [hb_i (g 1), hb_i (g 2), hb_i (g 3), hb_i (g 4)])
  ∧ (hb_stE l I yL_take cL_take 5 [(0, 10, 13, 13), (0, 10, 17, 15)] yX9_take cX9_take 3 [hb_i (g 1), hb_i (g 2)])
  ∧ (hb_stE l I yL_done cL_done 6 [(0, 12, 15, 13), (0, 12, 19, 15)] yX9_done cX9_done 4 [hb_i (g 1), hb_i (g 2), hb_i (g 3)])
  ∧ (hb_stE l I yL_concede cL_concede 8 [(0, 16, 19, 13), (0, 16, 23, 15)] yX9_concede cX9_concede 7 [hb_i (g 1), hb_i (g 2), hb_i (g 3), hb_i (g 4), hb_i (g 5)])
  ∧ (hb_stE l I yL_rebuild cL_rebuild 6 [(0, 12, 15, 13), (0, 12, 19, 15)] yX9_rebuild cX9_rebuild 4 [hb_i (g 1), hb_i (g 2), hb_i (g 3)])
  ∧ (hb_stS l I yL_strike cL_strike 3 [(0, 5, 8, 13), (0, 5, 11, 15)] yX9_strike cX9_strike 3 [hb_i (g 1)])
  ∧ (hb_stQ l I yX8_count cX8_count 2 (some .int) yX9_count cX9_count 2 (some .int) [hb_i (g 1)])
  ∧ (hb_stQ l I yX8_where cX8_where 4 (some .int) yX9_where cX9_where 5 (some .int) [hb_i (g 1), hb_i (g 2), hb_i (g 3)])
  ∧ (hb_stQ l I yX8_at cX8_at 4 (some .int) yX9_at cX9_at 5 (some .int) [hb_i (g 1), hb_i (g 2), hb_i (g 3)])
  ∧ (hb_stQ l I yX8_counter cX8_counter 4 (some .int) yX9_counter cX9_counter 4 (some .int) [hb_i (g 1), hb_i (g 2), hb_i (g 3)])
  ∧ (hb_stQ l I yX8_due cX8_due 5 (some .int) yX9_due cX9_due 5 (some .int) [hb_i (g 1), hb_i (g 2), hb_i (g 3), hb_i (g 4)])
  ∧ (hb_stQ l I yX8_asked cX8_asked 4 (some .int) yX9_asked cX9_asked 5 (some .int) [hb_i (g 1), hb_i (g 2), hb_i (g 3)])
  ∧ (hb_stQ l I yX8_open cX8_open 7 (some .int) yX9_open cX9_open 9 (some .int) [hb_i (g 1), hb_i (g 2), hb_i (g 3)])
  ∧ (hb_stQ l I yX8_grounded cX8_grounded 4 (some .int) yX9_grounded cX9_grounded 6 (some .int) [hb_i (g 1), hb_i (g 2)])
  ∧ (hb_stQ l I yX8_forecast cX8_forecast 8 (some .int) yX9_forecast cX9_forecast 12 (some .int) [hb_i (g 1), hb_i (g 2), hb_i (g 3), hb_i (g 4), hb_i (g 5)])
theorem law_loop {l : Launch} {I : hb_I} {nm : String} {tb : List ExceptionTableEntry} {E : hb_E} {z0 : Heap} {σ0 : Nat → Nat} {L : Nat} {f : Int → Int} (hS : hb_SC E z0 σ0 L f) (hst : hb_Steps l I) : ∀ (r : Nat) (G : hb_G) (F : hb_F) (na kc ks : Nat) (i : Int), 0 ≤ i → i ≤ L + 6 → (L : Int) ≤ i + 6 * r + 5 → kc + 2 * r ≤ room_1.cells → ks + 15 * r ≤ room_1.slots → na + r ≤ 900000 → I G F na → ∃ h' N', hb_LW l nm tb E z0 σ0 h' N' kc ks 23 (hb_l5 i) [] (hb_w G F na) (77 + na)
  | 0, G, F, na, kc, ks, i, hi, hi2, hr, hkc, hks, hna, hI => ⟨_, _, law_exit hS ⟨hi, by have := hS.1; omega⟩ (by omega) (by omega) (by omega) (by omega)⟩
  | r + 1, G, F, na, kc, ks, i, hi, hi2, hr, hkc, hks, hna, hI => by
    have hL := hS.1
    by_cases hx : i + 6 ≤ L
    · have hg := hst (fun j => f (i + j)) (fun j => hS.2.1 _)
      obtain ⟨s_place, s_thing, s_task, s_order, s_life, s_flight, s_put, s_take, s_done, s_concede, s_rebuild, s_strike, s_count, s_where, s_at, s_counter, s_due, s_asked, s_open, s_grounded, s_forecast⟩ := hg
      have h31 := hb_31 (f i)
      have nx : ∀ G2 F1 na1 kc1 ks1, na1 ≤ na + 1 → kc1 ≤ kc + 2 → ks1 ≤ ks + 15 → I G2 F1 na1 → ∃ h' N', hb_LW l nm tb E z0 σ0 h' N' kc1 ks1 1450 (hb_l5 i) [] (hb_w G2 F1 na1) (77 + na1) := by
        intro G2 F1 na1 kc1 ks1 e1 e2 e3 hI2
        obtain ⟨h', N', k⟩ := law_loop hS hst r G2 F1 na1 kc1 ks1 (i + 6) (by omega) (by omega) (by omega) (by omega) (by omega) (by omega) hI2
        exact ⟨h', N', law_back k⟩
      have nq : ∀ G2, I G2 F na → ∃ h' N', hb_LW l nm tb E z0 σ0 h' N' kc ks 1450 (hb_l5 i) [] (hb_w G2 F na) (77 + na) := fun G2 hI2 => nx G2 F na kc ks (by omega) (by omega) (by omega) hI2
      generalize hrr : (Int32.ofInt (f i) &&& Int32.ofInt 31).toInt = rr at h31
      have hcs : rr = 0 ∨ rr = 1 ∨ rr = 2 ∨ rr = 3 ∨ rr = 4 ∨ rr = 5 ∨ rr = 6 ∨ rr = 7 ∨ rr = 8 ∨ rr = 9 ∨ rr = 10 ∨ rr = 11 ∨ rr = 12 ∨ rr = 13 ∨ rr = 14 ∨ rr = 15 ∨ rr = 16 ∨ rr = 17 ∨ rr = 18 ∨ rr = 19 ∨ rr = 20 ∨ 20 < rr := by omega
      rcases hcs with hc | hc | hc | hc | hc | hc | hc | hc | hc | hc | hc | hc | hc | hc | hc | hc | hc | hc | hc | hc | hc | hc
      · obtain ⟨h', N', k⟩ := law_place hS ⟨hi, hx⟩ (by omega) (by omega) (by omega) hI s_place nq
        exact ⟨h', N', law_head hS ⟨hi, by omega⟩ hx (by omega) (by decide) (hrr.trans hc) (off := 100) (by decide) (tg := 140) (by decide) k⟩
      · obtain ⟨h', N', k⟩ := law_thing hS ⟨hi, hx⟩ (by omega) (by omega) (by omega) hI s_thing nq
        exact ⟨h', N', law_head hS ⟨hi, by omega⟩ hx (by omega) (by decide) (hrr.trans hc) (off := 149) (by decide) (tg := 189) (by decide) k⟩
      · obtain ⟨h', N', k⟩ := law_task hS ⟨hi, hx⟩ (by omega) (by omega) (by omega) hI s_task nq
        exact ⟨h', N', law_head hS ⟨hi, by omega⟩ hx (by omega) (by decide) (hrr.trans hc) (off := 222) (by decide) (tg := 262) (by decide) k⟩
      · obtain ⟨h', N', k⟩ := law_order hS ⟨hi, hx⟩ (by omega) (by omega) (by omega) hI s_order nq
        exact ⟨h', N', law_head hS ⟨hi, by omega⟩ hx (by omega) (by decide) (hrr.trans hc) (off := 295) (by decide) (tg := 335) (by decide) k⟩
      · obtain ⟨h', N', k⟩ := law_life hS ⟨hi, hx⟩ (by omega) (by omega) (by omega) hI s_life nq
        exact ⟨h', N', law_head hS ⟨hi, by omega⟩ hx (by omega) (by decide) (hrr.trans hc) (off := 368) (by decide) (tg := 408) (by decide) k⟩
      · obtain ⟨h', N', k⟩ := law_flight hS ⟨hi, hx⟩ (by omega) (by omega) (by omega) hI s_flight nx
        exact ⟨h', N', law_head hS ⟨hi, by omega⟩ hx (by omega) (by decide) (hrr.trans hc) (off := 417) (by decide) (tg := 457) (by decide) k⟩
      · obtain ⟨h', N', k⟩ := law_put hS ⟨hi, hx⟩ (by omega) (by omega) (by omega) hI s_put nx
        exact ⟨h', N', law_head hS ⟨hi, by omega⟩ hx (by omega) (by decide) (hrr.trans hc) (off := 509) (by decide) (tg := 549) (by decide) k⟩
      · obtain ⟨h', N', k⟩ := law_take hS ⟨hi, hx⟩ (by omega) (by omega) (by omega) hI s_take nx
        exact ⟨h', N', law_head hS ⟨hi, by omega⟩ hx (by omega) (by decide) (hrr.trans hc) (off := 601) (by decide) (tg := 641) (by decide) k⟩
      · obtain ⟨h', N', k⟩ := law_done hS ⟨hi, hx⟩ (by omega) (by omega) (by omega) hI s_done nx
        exact ⟨h', N', law_head hS ⟨hi, by omega⟩ hx (by omega) (by decide) (hrr.trans hc) (off := 669) (by decide) (tg := 709) (by decide) k⟩
      · obtain ⟨h', N', k⟩ := law_concede hS ⟨hi, hx⟩ (by omega) (by omega) (by omega) hI s_concede nx
        exact ⟨h', N', law_head hS ⟨hi, by omega⟩ hx (by omega) (by decide) (hrr.trans hc) (off := 749) (by decide) (tg := 789) (by decide) k⟩
      · obtain ⟨h', N', k⟩ := law_rebuild hS ⟨hi, hx⟩ (by omega) (by omega) (by omega) hI s_rebuild nx
        exact ⟨h', N', law_head hS ⟨hi, by omega⟩ hx (by omega) (by decide) (hrr.trans hc) (off := 853) (by decide) (tg := 893) (by decide) k⟩
      · obtain ⟨h', N', k⟩ := law_strike hS ⟨hi, hx⟩ (by omega) (by omega) (by omega) hI s_strike nx
        exact ⟨h', N', law_head hS ⟨hi, by omega⟩ hx (by omega) (by decide) (hrr.trans hc) (off := 933) (by decide) (tg := 973) (by decide) k⟩
      · obtain ⟨h', N', k⟩ := law_count hS ⟨hi, hx⟩ (by omega) (by omega) (by omega) hI s_count nq
        exact ⟨h', N', law_head hS ⟨hi, by omega⟩ hx (by omega) (by decide) (hrr.trans hc) (off := 969) (by decide) (tg := 1009) (by decide) k⟩
      · obtain ⟨h', N', k⟩ := law_where hS ⟨hi, hx⟩ (by omega) (by omega) (by omega) hI s_where nq
        exact ⟨h', N', law_head hS ⟨hi, by omega⟩ hx (by omega) (by decide) (hrr.trans hc) (off := 994) (by decide) (tg := 1034) (by decide) k⟩
      · obtain ⟨h', N', k⟩ := law_at hS ⟨hi, hx⟩ (by omega) (by omega) (by omega) hI s_at nq
        exact ⟨h', N', law_head hS ⟨hi, by omega⟩ hx (by omega) (by decide) (hrr.trans hc) (off := 1043) (by decide) (tg := 1083) (by decide) k⟩
      · obtain ⟨h', N', k⟩ := law_counter hS ⟨hi, hx⟩ (by omega) (by omega) (by omega) hI s_counter nq
        exact ⟨h', N', law_head hS ⟨hi, by omega⟩ hx (by omega) (by decide) (hrr.trans hc) (off := 1092) (by decide) (tg := 1132) (by decide) k⟩
      · obtain ⟨h', N', k⟩ := law_due hS ⟨hi, hx⟩ (by omega) (by omega) (by omega) hI s_due nq
        exact ⟨h', N', law_head hS ⟨hi, by omega⟩ hx (by omega) (by decide) (hrr.trans hc) (off := 1141) (by decide) (tg := 1181) (by decide) k⟩
      · obtain ⟨h', N', k⟩ := law_asked hS ⟨hi, hx⟩ (by omega) (by omega) (by omega) hI s_asked nq
        exact ⟨h', N', law_head hS ⟨hi, by omega⟩ hx (by omega) (by decide) (hrr.trans hc) (off := 1202) (by decide) (tg := 1242) (by decide) k⟩
      · obtain ⟨h', N', k⟩ := law_open hS ⟨hi, hx⟩ (by omega) (by omega) (by omega) hI s_open nq
        exact ⟨h', N', law_head hS ⟨hi, by omega⟩ hx (by omega) (by decide) (hrr.trans hc) (off := 1251) (by decide) (tg := 1291) (by decide) k⟩
      · obtain ⟨h', N', k⟩ := law_grounded hS ⟨hi, hx⟩ (by omega) (by omega) (by omega) hI s_grounded nq
        exact ⟨h', N', law_head hS ⟨hi, by omega⟩ hx (by omega) (by decide) (hrr.trans hc) (off := 1300) (by decide) (tg := 1340) (by decide) k⟩
      · obtain ⟨h', N', k⟩ := law_forecast hS ⟨hi, hx⟩ (by omega) (by omega) (by omega) hI s_forecast nq
        exact ⟨h', N', law_head hS ⟨hi, by omega⟩ hx (by omega) (by decide) (hrr.trans hc) (off := 1337) (by decide) (tg := 1377) (by decide) k⟩
      · obtain ⟨h', N', k⟩ := nq G hI
        exact ⟨h', N', law_headX hS ⟨hi, by omega⟩ hx (by omega) hrr ⟨hc, by omega⟩ k⟩
    · exact ⟨_, _, law_exit hS ⟨hi, by omega⟩ (by omega) (by omega) (by omega) (by omega)⟩
