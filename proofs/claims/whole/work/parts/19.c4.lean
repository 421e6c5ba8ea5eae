section HBD
variable {l : Launch} {own : String} {cc : ByteArray} {nL : Nat} {ret : Option FieldType} {nm : String} {tb : List ExceptionTableEntry} {E : hb_E} {z0 : Heap} {R : Room} {σ0 : Nat → Nat} {N0 : Nat} {o : hb_O} {h' : hb_H} {N' : Nat} {kc ks pc : Nat} {ls st : List hb_V} {h : hb_H} {N : Nat}
theorem aw_dk_1_1 {a0 b0 : hb_V} (k : hb_W l own cc nL ret nm tb E z0 R σ0 N0 o h' N' kc ks pc [a0] st h N) : hb_W l own cc nL ret nm tb E z0 R σ0 N0 o h' N' kc ks pc [a0, b0] st h N := aw_keep (ls := [a0]) (ls2 := [b0]) k
theorem aw_dk_1_2 {a0 b0 b1 : hb_V} (k : hb_W l own cc nL ret nm tb E z0 R σ0 N0 o h' N' kc ks pc [a0] st h N) : hb_W l own cc nL ret nm tb E z0 R σ0 N0 o h' N' kc ks pc [a0, b0, b1] st h N := aw_keep (ls := [a0]) (ls2 := [b0, b1]) k
theorem aw_dk_1_3 {a0 b0 b1 b2 : hb_V} (k : hb_W l own cc nL ret nm tb E z0 R σ0 N0 o h' N' kc ks pc [a0] st h N) : hb_W l own cc nL ret nm tb E z0 R σ0 N0 o h' N' kc ks pc [a0, b0, b1, b2] st h N := aw_keep (ls := [a0]) (ls2 := [b0, b1, b2]) k
theorem aw_dk_1_4 {a0 b0 b1 b2 b3 : hb_V} (k : hb_W l own cc nL ret nm tb E z0 R σ0 N0 o h' N' kc ks pc [a0] st h N) : hb_W l own cc nL ret nm tb E z0 R σ0 N0 o h' N' kc ks pc [a0, b0, b1, b2, b3] st h N := aw_keep (ls := [a0]) (ls2 := [b0, b1, b2, b3]) k
theorem aw_dk_2_1 {a0 a1 b0 : hb_V} (k : hb_W l own cc nL ret nm tb E z0 R σ0 N0 o h' N' kc ks pc [a0, a1] st h N) : hb_W l own cc nL ret nm tb E z0 R σ0 N0 o h' N' kc ks pc [a0, a1, b0] st h N := aw_keep (ls := [a0, a1]) (ls2 := [b0]) k
theorem aw_dk_2_2 {a0 a1 b0 b1 : hb_V} (k : hb_W l own cc nL ret nm tb E z0 R σ0 N0 o h' N' kc ks pc [a0, a1] st h N) : hb_W l own cc nL ret nm tb E z0 R σ0 N0 o h' N' kc ks pc [a0, a1, b0, b1] st h N := aw_keep (ls := [a0, a1]) (ls2 := [b0, b1]) k
theorem aw_dk_2_3 {a0 a1 b0 b1 b2 : hb_V} (k : hb_W l own cc nL ret nm tb E z0 R σ0 N0 o h' N' kc ks pc [a0, a1] st h N) : hb_W l own cc nL ret nm tb E z0 R σ0 N0 o h' N' kc ks pc [a0, a1, b0, b1, b2] st h N := aw_keep (ls := [a0, a1]) (ls2 := [b0, b1, b2]) k
theorem aw_dk_2_4 {a0 a1 b0 b1 b2 b3 : hb_V} (k : hb_W l own cc nL ret nm tb E z0 R σ0 N0 o h' N' kc ks pc [a0, a1] st h N) : hb_W l own cc nL ret nm tb E z0 R σ0 N0 o h' N' kc ks pc [a0, a1, b0, b1, b2, b3] st h N := aw_keep (ls := [a0, a1]) (ls2 := [b0, b1, b2, b3]) k
theorem aw_dk_3_1 {a0 a1 a2 b0 : hb_V} (k : hb_W l own cc nL ret nm tb E z0 R σ0 N0 o h' N' kc ks pc [a0, a1, a2] st h N) : hb_W l own cc nL ret nm tb E z0 R σ0 N0 o h' N' kc ks pc [a0, a1, a2, b0] st h N := aw_keep (ls := [a0, a1, a2]) (ls2 := [b0]) k
theorem aw_dk_3_2 {a0 a1 a2 b0 b1 : hb_V} (k : hb_W l own cc nL ret nm tb E z0 R σ0 N0 o h' N' kc ks pc [a0, a1, a2] st h N) : hb_W l own cc nL ret nm tb E z0 R σ0 N0 o h' N' kc ks pc [a0, a1, a2, b0, b1] st h N := aw_keep (ls := [a0, a1, a2]) (ls2 := [b0, b1]) k
theorem aw_dk_3_3 {a0 a1 a2 b0 b1 b2 : hb_V} (k : hb_W l own cc nL ret nm tb E z0 R σ0 N0 o h' N' kc ks pc [a0, a1, a2] st h N) : hb_W l own cc nL ret nm tb E z0 R σ0 N0 o h' N' kc ks pc [a0, a1, a2, b0, b1, b2] st h N := aw_keep (ls := [a0, a1, a2]) (ls2 := [b0, b1, b2]) k
theorem aw_dk_3_4 {a0 a1 a2 b0 b1 b2 b3 : hb_V} (k : hb_W l own cc nL ret nm tb E z0 R σ0 N0 o h' N' kc ks pc [a0, a1, a2] st h N) : hb_W l own cc nL ret nm tb E z0 R σ0 N0 o h' N' kc ks pc [a0, a1, a2, b0, b1, b2, b3] st h N := aw_keep (ls := [a0, a1, a2]) (ls2 := [b0, b1, b2, b3]) k
theorem aw_dk_4_1 {a0 a1 a2 a3 b0 : hb_V} (k : hb_W l own cc nL ret nm tb E z0 R σ0 N0 o h' N' kc ks pc [a0, a1, a2, a3] st h N) : hb_W l own cc nL ret nm tb E z0 R σ0 N0 o h' N' kc ks pc [a0, a1, a2, a3, b0] st h N := aw_keep (ls := [a0, a1, a2, a3]) (ls2 := [b0]) k
theorem aw_dk_4_2 {a0 a1 a2 a3 b0 b1 : hb_V} (k : hb_W l own cc nL ret nm tb E z0 R σ0 N0 o h' N' kc ks pc [a0, a1, a2, a3] st h N) : hb_W l own cc nL ret nm tb E z0 R σ0 N0 o h' N' kc ks pc [a0, a1, a2, a3, b0, b1] st h N := aw_keep (ls := [a0, a1, a2, a3]) (ls2 := [b0, b1]) k
theorem aw_dk_4_3 {a0 a1 a2 a3 b0 b1 b2 : hb_V} (k : hb_W l own cc nL ret nm tb E z0 R σ0 N0 o h' N' kc ks pc [a0, a1, a2, a3] st h N) : hb_W l own cc nL ret nm tb E z0 R σ0 N0 o h' N' kc ks pc [a0, a1, a2, a3, b0, b1, b2] st h N := aw_keep (ls := [a0, a1, a2, a3]) (ls2 := [b0, b1, b2]) k
theorem aw_dk_4_4 {a0 a1 a2 a3 b0 b1 b2 b3 : hb_V} (k : hb_W l own cc nL ret nm tb E z0 R σ0 N0 o h' N' kc ks pc [a0, a1, a2, a3] st h N) : hb_W l own cc nL ret nm tb E z0 R σ0 N0 o h' N' kc ks pc [a0, a1, a2, a3, b0, b1, b2, b3] st h N := aw_keep (ls := [a0, a1, a2, a3]) (ls2 := [b0, b1, b2, b3]) k
theorem aw_dk_5_1 {a0 a1 a2 a3 a4 b0 : hb_V} (k : hb_W l own cc nL ret nm tb E z0 R σ0 N0 o h' N' kc ks pc [a0, a1, a2, a3, a4] st h N) : hb_W l own cc nL ret nm tb E z0 R σ0 N0 o h' N' kc ks pc [a0, a1, a2, a3, a4, b0] st h N := aw_keep (ls := [a0, a1, a2, a3, a4]) (ls2 := [b0]) k
theorem aw_dk_5_2 {a0 a1 a2 a3 a4 b0 b1 : hb_V} (k : hb_W l own cc nL ret nm tb E z0 R σ0 N0 o h' N' kc ks pc [a0, a1, a2, a3, a4] st h N) : hb_W l own cc nL ret nm tb E z0 R σ0 N0 o h' N' kc ks pc [a0, a1, a2, a3, a4, b0, b1] st h N := aw_keep (ls := [a0, a1, a2, a3, a4]) (ls2 := [b0, b1]) k
theorem aw_dk_5_3 {a0 a1 a2 a3 a4 b0 b1 b2 : hb_V} (k : hb_W l own cc nL ret nm tb E z0 R σ0 N0 o h' N' kc ks pc [a0, a1, a2, a3, a4] st h N) : hb_W l own cc nL ret nm tb E z0 R σ0 N0 o h' N' kc ks pc [a0, a1, a2, a3, a4, b0, b1, b2] st h N := aw_keep (ls := [a0, a1, a2, a3, a4]) (ls2 := [b0, b1, b2]) k
theorem aw_dk_5_4 {a0 a1 a2 a3 a4 b0 b1 b2 b3 : hb_V} (k : hb_W l own cc nL ret nm tb E z0 R σ0 N0 o h' N' kc ks pc [a0, a1, a2, a3, a4] st h N) : hb_W l own cc nL ret nm tb E z0 R σ0 N0 o h' N' kc ks pc [a0, a1, a2, a3, a4, b0, b1, b2, b3] st h N := aw_keep (ls := [a0, a1, a2, a3, a4]) (ls2 := [b0, b1, b2, b3]) k
theorem aw_dk_6_1 {a0 a1 a2 a3 a4 a5 b0 : hb_V} (k : hb_W l own cc nL ret nm tb E z0 R σ0 N0 o h' N' kc ks pc [a0, a1, a2, a3, a4, a5] st h N) : hb_W l own cc nL ret nm tb E z0 R σ0 N0 o h' N' kc ks pc [a0, a1, a2, a3, a4, a5, b0] st h N := aw_keep (ls := [a0, a1, a2, a3, a4, a5]) (ls2 := [b0]) k
theorem aw_dk_6_2 {a0 a1 a2 a3 a4 a5 b0 b1 : hb_V} (k : hb_W l own cc nL ret nm tb E z0 R σ0 N0 o h' N' kc ks pc [a0, a1, a2, a3, a4, a5] st h N) : hb_W l own cc nL ret nm tb E z0 R σ0 N0 o h' N' kc ks pc [a0, a1, a2, a3, a4, a5, b0, b1] st h N := aw_keep (ls := [a0, a1, a2, a3, a4, a5]) (ls2 := [b0, b1]) k
theorem aw_dk_6_3 {a0 a1 a2 a3 a4 a5 b0 b1 b2 : hb_V} (k : hb_W l own cc nL ret nm tb E z0 R σ0 N0 o h' N' kc ks pc [a0, a1, a2, a3, a4, a5] st h N) : hb_W l own cc nL ret nm tb E z0 R σ0 N0 o h' N' kc ks pc [a0, a1, a2, a3, a4, a5, b0, b1, b2] st h N := aw_keep (ls := [a0, a1, a2, a3, a4, a5]) (ls2 := [b0, b1, b2]) k
theorem aw_dk_6_4 {a0 a1 a2 a3 a4 a5 b0 b1 b2 b3 : hb_V} (k : hb_W l own cc nL ret nm tb E z0 R σ0 N0 o h' N' kc ks pc [a0, a1, a2, a3, a4, a5] st h N) : hb_W l own cc nL ret nm tb E z0 R σ0 N0 o h' N' kc ks pc [a0, a1, a2, a3, a4, a5, b0, b1, b2, b3] st h N := aw_keep (ls := [a0, a1, a2, a3, a4, a5]) (ls2 := [b0, b1, b2, b3]) k
theorem aw_dk_7_1 {a0 a1 a2 a3 a4 a5 a6 b0 : hb_V} (k : hb_W l own cc nL ret nm tb E z0 R σ0 N0 o h' N' kc ks pc [a0, a1, a2, a3, a4, a5, a6] st h N) : hb_W l own cc nL ret nm tb E z0 R σ0 N0 o h' N' kc ks pc [a0, a1, a2, a3, a4, a5, a6, b0] st h N := aw_keep (ls := [a0, a1, a2, a3, a4, a5, a6]) (ls2 := [b0]) k
theorem aw_dk_7_2 {a0 a1 a2 a3 a4 a5 a6 b0 b1 : hb_V} (k : hb_W l own cc nL ret nm tb E z0 R σ0 N0 o h' N' kc ks pc [a0, a1, a2, a3, a4, a5, a6] st h N) : hb_W l own cc nL ret nm tb E z0 R σ0 N0 o h' N' kc ks pc [a0, a1, a2, a3, a4, a5, a6, b0, b1] st h N := aw_keep (ls := [a0, a1, a2, a3, a4, a5, a6]) (ls2 := [b0, b1]) k
theorem aw_dk_7_3 {a0 a1 a2 a3 a4 a5 a6 b0 b1 b2 : hb_V} (k : hb_W l own cc nL ret nm tb E z0 R σ0 N0 o h' N' kc ks pc [a0, a1, a2, a3, a4, a5, a6] st h N) : hb_W l own cc nL ret nm tb E z0 R σ0 N0 o h' N' kc ks pc [a0, a1, a2, a3, a4, a5, a6, b0, b1, b2] st h N := aw_keep (ls := [a0, a1, a2, a3, a4, a5, a6]) (ls2 := [b0, b1, b2]) k
theorem aw_dk_7_4 {a0 a1 a2 a3 a4 a5 a6 b0 b1 b2 b3 : hb_V} (k : hb_W l own cc nL ret nm tb E z0 R σ0 N0 o h' N' kc ks pc [a0, a1, a2, a3, a4, a5, a6] st h N) : hb_W l own cc nL ret nm tb E z0 R σ0 N0 o h' N' kc ks pc [a0, a1, a2, a3, a4, a5, a6, b0, b1, b2, b3] st h N := aw_keep (ls := [a0, a1, a2, a3, a4, a5, a6]) (ls2 := [b0, b1, b2, b3]) k
theorem aw_dk_8_1 {a0 a1 a2 a3 a4 a5 a6 a7 b0 : hb_V} (k : hb_W l own cc nL ret nm tb E z0 R σ0 N0 o h' N' kc ks pc [a0, a1, a2, a3, a4, a5, a6, a7] st h N) : hb_W l own cc nL ret nm tb E z0 R σ0 N0 o h' N' kc ks pc [a0, a1, a2, a3, a4, a5, a6, a7, b0] st h N := aw_keep (ls := [a0, a1, a2, a3, a4, a5, a6, a7]) (ls2 := [b0]) k
theorem aw_dk_8_2 {a0 a1 a2 a3 a4 a5 a6 a7 b0 b1 : hb_V} (k : hb_W l own cc nL ret nm tb E z0 R σ0 N0 o h' N' kc ks pc [a0, a1, a2, a3, a4, a5, a6, a7] st h N) : hb_W l own cc nL ret nm tb E z0 R σ0 N0 o h' N' kc ks pc [a0, a1, a2, a3, a4, a5, a6, a7, b0, b1] st h N := aw_keep (ls := [a0, a1, a2, a3, a4, a5, a6, a7]) (ls2 := [b0, b1]) k
theorem aw_dk_8_3 {a0 a1 a2 a3 a4 a5 a6 a7 b0 b1 b2 : hb_V} (k : hb_W l own cc nL ret nm tb E z0 R σ0 N0 o h' N' kc ks pc [a0, a1, a2, a3, a4, a5, a6, a7] st h N) : hb_W l own cc nL ret nm tb E z0 R σ0 N0 o h' N' kc ks pc [a0, a1, a2, a3, a4, a5, a6, a7, b0, b1, b2] st h N := aw_keep (ls := [a0, a1, a2, a3, a4, a5, a6, a7]) (ls2 := [b0, b1, b2]) k
theorem aw_dk_8_4 {a0 a1 a2 a3 a4 a5 a6 a7 b0 b1 b2 b3 : hb_V} (k : hb_W l own cc nL ret nm tb E z0 R σ0 N0 o h' N' kc ks pc [a0, a1, a2, a3, a4, a5, a6, a7] st h N) : hb_W l own cc nL ret nm tb E z0 R σ0 N0 o h' N' kc ks pc [a0, a1, a2, a3, a4, a5, a6, a7, b0, b1, b2, b3] st h N := aw_keep (ls := [a0, a1, a2, a3, a4, a5, a6, a7]) (ls2 := [b0, b1, b2, b3]) k
theorem aw_dk_9_1 {a0 a1 a2 a3 a4 a5 a6 a7 a8 b0 : hb_V} (k : hb_W l own cc nL ret nm tb E z0 R σ0 N0 o h' N' kc ks pc [a0, a1, a2, a3, a4, a5, a6, a7, a8] st h N) : hb_W l own cc nL ret nm tb E z0 R σ0 N0 o h' N' kc ks pc [a0, a1, a2, a3, a4, a5, a6, a7, a8, b0] st h N := aw_keep (ls := [a0, a1, a2, a3, a4, a5, a6, a7, a8]) (ls2 := [b0]) k
theorem aw_dk_9_2 {a0 a1 a2 a3 a4 a5 a6 a7 a8 b0 b1 : hb_V} (k : hb_W l own cc nL ret nm tb E z0 R σ0 N0 o h' N' kc ks pc [a0, a1, a2, a3, a4, a5, a6, a7, a8] st h N) : hb_W l own cc nL ret nm tb E z0 R σ0 N0 o h' N' kc ks pc [a0, a1, a2, a3, a4, a5, a6, a7, a8, b0, b1] st h N := aw_keep (ls := [a0, a1, a2, a3, a4, a5, a6, a7, a8]) (ls2 := [b0, b1]) k
theorem aw_dk_9_3 {a0 a1 a2 a3 a4 a5 a6 a7 a8 b0 b1 b2 : hb_V} (k : hb_W l own cc nL ret nm tb E z0 R σ0 N0 o h' N' kc ks pc [a0, a1, a2, a3, a4, a5, a6, a7, a8] st h N) : hb_W l own cc nL ret nm tb E z0 R σ0 N0 o h' N' kc ks pc [a0, a1, a2, a3, a4, a5, a6, a7, a8, b0, b1, b2] st h N := aw_keep (ls := [a0, a1, a2, a3, a4, a5, a6, a7, a8]) (ls2 := [b0, b1, b2]) k
theorem aw_dk_9_4 {a0 a1 a2 a3 a4 a5 a6 a7 a8 b0 b1 b2 b3 : hb_V} (k : hb_W l own cc nL ret nm tb E z0 R σ0 N0 o h' N' kc ks pc [a0, a1, a2, a3, a4, a5, a6, a7, a8] st h N) : hb_W l own cc nL ret nm tb E z0 R σ0 N0 o h' N' kc ks pc [a0, a1, a2, a3, a4, a5, a6, a7, a8, b0, b1, b2, b3] st h N := aw_keep (ls := [a0, a1, a2, a3, a4, a5, a6, a7, a8]) (ls2 := [b0, b1, b2, b3]) k
theorem aw_dk_10_1 {a0 a1 a2 a3 a4 a5 a6 a7 a8 a9 b0 : hb_V} (k : hb_W l own cc nL ret nm tb E z0 R σ0 N0 o h' N' kc ks pc [a0, a1, a2, a3, a4, a5, a6, a7, a8, a9] st h N) : hb_W l own cc nL ret nm tb E z0 R σ0 N0 o h' N' kc ks pc [a0, a1, a2, a3, a4, a5, a6, a7, a8, a9, b0] st h N := aw_keep (ls := [a0, a1, a2, a3, a4, a5, a6, a7, a8, a9]) (ls2 := [b0]) k
theorem aw_dk_10_2 {a0 a1 a2 a3 a4 a5 a6 a7 a8 a9 b0 b1 : hb_V} (k : hb_W l own cc nL ret nm tb E z0 R σ0 N0 o h' N' kc ks pc [a0, a1, a2, a3, a4, a5, a6, a7, a8, a9] st h N) : hb_W l own cc nL ret nm tb E z0 R σ0 N0 o h' N' kc ks pc [a0, a1, a2, a3, a4, a5, a6, a7, a8, a9, b0, b1] st h N := aw_keep (ls := [a0, a1, a2, a3, a4, a5, a6, a7, a8, a9]) (ls2 := [b0, b1]) k
theorem aw_dk_10_3 {a0 a1 a2 a3 a4 a5 a6 a7 a8 a9 b0 b1 b2 : hb_V} (k : hb_W l own cc nL ret nm tb E z0 R σ0 N0 o h' N' kc ks pc [a0, a1, a2, a3, a4, a5, a6, a7, a8, a9] st h N) : hb_W l own cc nL ret nm tb E z0 R σ0 N0 o h' N' kc ks pc [a0, a1, a2, a3, a4, a5, a6, a7, a8, a9, b0, b1, b2] st h N := aw_keep (ls := [a0, a1, a2, a3, a4, a5, a6, a7, a8, a9]) (ls2 := [b0, b1, b2]) k
theorem aw_dk_10_4 {a0 a1 a2 a3 a4 a5 a6 a7 a8 a9 b0 b1 b2 b3 : hb_V} (k : hb_W l own cc nL ret nm tb E z0 R σ0 N0 o h' N' kc ks pc [a0, a1, a2, a3, a4, a5, a6, a7, a8, a9] st h N) : hb_W l own cc nL ret nm tb E z0 R σ0 N0 o h' N' kc ks pc [a0, a1, a2, a3, a4, a5, a6, a7, a8, a9, b0, b1, b2, b3] st h N := aw_keep (ls := [a0, a1, a2, a3, a4, a5, a6, a7, a8, a9]) (ls2 := [b0, b1, b2, b3]) k
theorem aw_dk_11_1 {a0 a1 a2 a3 a4 a5 a6 a7 a8 a9 a10 b0 : hb_V} (k : hb_W l own cc nL ret nm tb E z0 R σ0 N0 o h' N' kc ks pc [a0, a1, a2, a3, a4, a5, a6, a7, a8, a9, a10] st h N) : hb_W l own cc nL ret nm tb E z0 R σ0 N0 o h' N' kc ks pc [a0, a1, a2, a3, a4, a5, a6, a7, a8, a9, a10, b0] st h N := aw_keep (ls := [a0, a1, a2, a3, a4, a5, a6, a7, a8, a9, a10]) (ls2 := [b0]) k
theorem aw_dk_11_2 {a0 a1 a2 a3 a4 a5 a6 a7 a8 a9 a10 b0 b1 : hb_V} (k : hb_W l own cc nL ret nm tb E z0 R σ0 N0 o h' N' kc ks pc [a0, a1, a2, a3, a4, a5, a6, a7, a8, a9, a10] st h N) : hb_W l own cc nL ret nm tb E z0 R σ0 N0 o h' N' kc ks pc [a0, a1, a2, a3, a4, a5, a6, a7, a8, a9, a10, b0, b1] st h N := aw_keep (ls := [a0, a1, a2, a3, a4, a5, a6, a7, a8, a9, a10]) (ls2 := [b0, b1]) k
theorem aw_dk_11_3 {a0 a1 a2 a3 a4 a5 a6 a7 a8 a9 a10 b0 b1 b2 : hb_V} (k : hb_W l own cc nL ret nm tb E z0 R σ0 N0 o h' N' kc ks pc [a0, a1, a2, a3, a4, a5, a6, a7, a8, a9, a10] st h N) : hb_W l own cc nL ret nm tb E z0 R σ0 N0 o h' N' kc ks pc [a0, a1, a2, a3, a4, a5, a6, a7, a8, a9, a10, b0, b1, b2] st h N := aw_keep (ls := [a0, a1, a2, a3, a4, a5, a6, a7, a8, a9, a10]) (ls2 := [b0, b1, b2]) k
theorem aw_dk_12_1 {a0 a1 a2 a3 a4 a5 a6 a7 a8 a9 a10 a11 b0 : hb_V} (k : hb_W l own cc nL ret nm tb E z0 R σ0 N0 o h' N' kc ks pc [a0, a1, a2, a3, a4, a5, a6, a7, a8, a9, a10, a11] st h N) : hb_W l own cc nL ret nm tb E z0 R σ0 N0 o h' N' kc ks pc [a0, a1, a2, a3, a4, a5, a6, a7, a8, a9, a10, a11, b0] st h N := aw_keep (ls := [a0, a1, a2, a3, a4, a5, a6, a7, a8, a9, a10, a11]) (ls2 := [b0]) k
theorem aw_dk_12_2 {a0 a1 a2 a3 a4 a5 a6 a7 a8 a9 a10 a11 b0 b1 : hb_V} (k : hb_W l own cc nL ret nm tb E z0 R σ0 N0 o h' N' kc ks pc [a0, a1, a2, a3, a4, a5, a6, a7, a8, a9, a10, a11] st h N) : hb_W l own cc nL ret nm tb E z0 R σ0 N0 o h' N' kc ks pc [a0, a1, a2, a3, a4, a5, a6, a7, a8, a9, a10, a11, b0, b1] st h N := aw_keep (ls := [a0, a1, a2, a3, a4, a5, a6, a7, a8, a9, a10, a11]) (ls2 := [b0, b1]) k
end HBD
def hb_an (a b : Int) : Int := (Int32.ofInt a &&& Int32.ofInt b).toInt
def hb_or (a b : Int) : Int := (Int32.ofInt a ||| Int32.ofInt b).toInt
def hb_xr (a b : Int) : Int := (Int32.ofInt a ^^^ Int32.ofInt b).toInt
def hb_sl (a b : Int) : Int := (Int32.ofInt a <<< (Int32.ofInt b &&& 31)).toInt
theorem hb_an_in (a b : Int) : hb_in (hb_an a b) := hb_inI _
theorem hb_exs {P : Int → Prop} {k : Int} (hk : 0 ≤ k) : (∃ o, (0 ≤ o ∧ o < k + 1) ∧ P o) ↔ (∃ o, (0 ≤ o ∧ o < k) ∧ P o) ∨ P k := by
  constructor
  · rintro ⟨o, h1, h2⟩
    rcases (show o < k ∨ o = k by omega) with h | h
    · exact Or.inl ⟨o, ⟨h1.1, h⟩, h2⟩
    · subst h; exact Or.inr h2
  · rintro (⟨o, h1, h2⟩ | h)
    · exact ⟨o, by omega, h2⟩
    · exact ⟨k, by omega, h⟩
/-- a counter: minutes, cycles as they stand, days at day d -/
def hb_cn (G : hb_G) (t u d : Int) : Int := if u = 0 then G 38 t else if u = 1 then G 39 t else d - G 11 t
/-- an order binds a thing, as it stands -/
def hb_bd (G : hb_G) (o t : Int) : Prop := (0 ≤ o ∧ o < 8 ∧ G 20 o ≠ -1) ∧ (G 20 o = G 7 t ∧ G 21 o ≤ t ∧ t ≤ G 22 o) ∧ hb_an (G 45 t) (hb_sl 1 o) = 0
/-- a task is asked of a thing, as it stands -/
def hb_ak (G : hb_G) (t k : Int) : Prop := (0 ≤ k ∧ k < 16 ∧ G 13 k ≠ -1) ∧ G 13 k = G 7 t ∧ (¬ ∃ o, (0 ≤ o ∧ o < 8) ∧ (hb_bd G o t ∧ G 24 o = k)) ∧ ((∃ o, (0 ≤ o ∧ o < 8) ∧ (G 20 o ≠ -1 ∧ G 23 o = k ∧ hb_bd G o t)) ∨ ¬ ∃ o, (0 ≤ o ∧ o < 8) ∧ (G 20 o ≠ -1 ∧ G 23 o = k))
def hb_fa (iv du cn day pace : Int) : Int := if iv = 0 then 40001 else if du - cn < 0 then day else if pace = 0 then 40001 else day + (du - cn) / pace + 1
theorem hb_fa_in {iv du cn day pace : Int} (h1 : -1000000000 ≤ du ∧ du ≤ 1000000000) (h2 : -1000000000 ≤ cn ∧ cn ≤ 1000000000) (h3 : 0 ≤ day ∧ day ≤ 30000) (h4 : 0 ≤ pace ∧ pace ≤ 1440) : 0 ≤ hb_fa iv du cn day pace ∧ hb_fa iv du cn day pace ≤ 2000100000 := by
  unfold hb_fa
  split
  · omega
  · split
    · omega
    · split
      · omega
      · have h5 : 0 ≤ (du - cn) / pace := Int.ediv_nonneg (by omega) (by omega)
        have h6 : (du - cn) / pace ≤ du - cn := Int.ediv_le_self _ (by omega)
        omega
/-- the least day on which a task is overdue, as it stands -/
def hb_fo (G : hb_G) (t k day m c : Int) : Int := min (min (hb_fa (G 15 k) (G 41 (t * 16 + k)) (G 38 t) day m) (hb_fa (G 16 k) (G 42 (t * 16 + k)) (G 39 t) day c)) (hb_fa (G 17 k) (G 43 (t * 16 + k)) (day - G 11 t) day 1)
/-- due points, counters and first days lie within bounds -/
def hb_bn (G : hb_G) : Prop := (∀ i, 0 ≤ i ∧ i < 640 → ∀ u, u = 41 ∨ u = 42 ∨ u = 43 → -1000000000 ≤ G u i ∧ G u i ≤ 1000000000) ∧ (∀ t, 0 ≤ t ∧ t < 40 → (-1000000000 ≤ G 38 t ∧ G 38 t ≤ 1000000000) ∧ (-1000000000 ≤ G 39 t ∧ G 39 t ≤ 1000000000) ∧ (0 ≤ G 11 t ∧ G 11 t ≤ 30000))
set_option maxRecDepth 20000 in
set_option maxHeartbeats 1000000 in
theorem c_counterOf0 {l : Launch} {G : hb_G} {F : hb_F} {na : Nat} {t d : Int} (ht : 0 ≤ t ∧ t < 40) : hb_M l yX4_counterOf cX4_counterOf 4 (some .int) 0 0 0 [hb_r 32, hb_i t, hb_i 0, hb_i d] (hb_w G F na) (77 + na) (.inl (some (hb_i (hb_cn G t 0 d)))) (hb_w G F na) (77 + na) := by
  refine hb_M_in rfl rfl (by decide) rfl (Nat.le_of_ble_eq_true rfl) ?_
  intro E z0 σ0
  refine aw_ild2 dX4_counterOf_0 ?_
  refine aw_iconst dX4_counterOf_1 ?_
  refine aw_icmp_ne (tg := 19) dX4_counterOf_2 (by decide) (by first | exact hG _ _ | assumption | (constructor <;> omega)) (by first | exact hG _ _ | assumption | (constructor <;> omega)) (fun c2 => ?_) (fun c2 => absurd c2 (by decide))
  refine aw_ald0 dX4_counterOf_19 ?_
  refine aw_getf dX4_counterOf_20 hbf_X4_11 rfl rfl ?_
  refine aw_ild2 dX4_counterOf_23 ?_
  refine aw_gald (r := some 38) dX4_counterOf_24 rfl (by decide) (by decide) rfl ?_
  refine aw_ild1 dX4_counterOf_25 ?_
  refine aw_iald dX4_counterOf_26 rfl (by constructor <;> omega) (by decide) ?_
  exact aw_iret dX4_counterOf_27 rfl (by rfl) rfl rfl (by decide) (by decide)
set_option maxRecDepth 20000 in
set_option maxHeartbeats 1000000 in
theorem c_counterOf1 {l : Launch} {G : hb_G} {F : hb_F} {na : Nat} {t d : Int} (ht : 0 ≤ t ∧ t < 40) : hb_M l yX4_counterOf cX4_counterOf 4 (some .int) 0 0 0 [hb_r 32, hb_i t, hb_i 1, hb_i d] (hb_w G F na) (77 + na) (.inl (some (hb_i (hb_cn G t 1 d)))) (hb_w G F na) (77 + na) := by
  refine hb_M_in rfl rfl (by decide) rfl (Nat.le_of_ble_eq_true rfl) ?_
  intro E z0 σ0
  refine aw_ild2 dX4_counterOf_0 ?_
  refine aw_iconst dX4_counterOf_1 ?_
  refine aw_icmp_ne (tg := 19) dX4_counterOf_2 (by decide) (by first | exact hG _ _ | assumption | (constructor <;> omega)) (by first | exact hG _ _ | assumption | (constructor <;> omega)) (fun c2 => ?_) (fun c2 => absurd c2 (by decide))
  refine aw_ald0 dX4_counterOf_19 ?_
  refine aw_getf dX4_counterOf_20 hbf_X4_11 rfl rfl ?_
  refine aw_ild2 dX4_counterOf_23 ?_
  refine aw_gald (r := some 39) dX4_counterOf_24 rfl (by decide) (by decide) rfl ?_
  refine aw_ild1 dX4_counterOf_25 ?_
  refine aw_iald dX4_counterOf_26 rfl (by constructor <;> omega) (by decide) ?_
  exact aw_iret dX4_counterOf_27 rfl (by rfl) rfl rfl (by decide) (by decide)
set_option maxRecDepth 20000 in
set_option maxHeartbeats 1000000 in
theorem c_counterOf2 {l : Launch} {G : hb_G} {F : hb_F} {na : Nat} {t d : Int} (ht : 0 ≤ t ∧ t < 40) : hb_M l yX4_counterOf cX4_counterOf 4 (some .int) 0 0 0 [hb_r 32, hb_i t, hb_i 2, hb_i d] (hb_w G F na) (77 + na) (.inl (some (hb_i (hb_cn G t 2 d)))) (hb_w G F na) (77 + na) := by
  refine hb_M_in rfl rfl (by decide) rfl (Nat.le_of_ble_eq_true rfl) ?_
  intro E z0 σ0
  refine aw_ild2 dX4_counterOf_0 ?_
  refine aw_iconst dX4_counterOf_1 ?_
  refine aw_icmp_ne (tg := 19) dX4_counterOf_2 (by decide) (by first | exact hG _ _ | assumption | (constructor <;> omega)) (by first | exact hG _ _ | assumption | (constructor <;> omega)) (fun c2 => absurd c2 (by decide)) (fun c2 => ?_)
  refine aw_ild3 dX4_counterOf_5 ?_
  refine aw_ald0 dX4_counterOf_6 ?_
  refine aw_getf dX4_counterOf_7 hbf_X4_30 rfl rfl ?_
  refine aw_getf dX4_counterOf_10 hbf_X4_150 rfl rfl ?_
  refine aw_ild1 dX4_counterOf_13 ?_
  refine aw_iald dX4_counterOf_14 rfl (by constructor <;> omega) (by decide) ?_
  refine aw_isub dX4_counterOf_15 ?_
  refine aw_goto (tg := 27) dX4_counterOf_16 (by decide) ?_
  exact aw_iret dX4_counterOf_27 rfl (by rfl) rfl rfl (by decide) (by decide)
theorem c_counterOf {l : Launch} {G : hb_G} {F : hb_F} {na : Nat} {t u d : Int} (hu : u = 0 ∨ u = 1 ∨ u = 2) (ht : 0 ≤ t ∧ t < 40) : hb_M l yX4_counterOf cX4_counterOf 4 (some .int) 0 0 0 [hb_r 32, hb_i t, hb_i u, hb_i d] (hb_w G F na) (77 + na) (.inl (some (hb_i (hb_cn G t u d)))) (hb_w G F na) (77 + na) := by
  rcases hu with rfl | rfl | rfl
  · exact c_counterOf0 ht
  · exact c_counterOf1 ht
  · exact c_counterOf2 ht
set_option maxRecDepth 20000 in
set_option maxHeartbeats 1000000 in
theorem c_forget {l : Launch} {G : hb_G} {F : hb_F} {na : Nat}  : hb_M l yX4_forget cX4_forget 1 none 0 0 0 [hb_r 32] (hb_w G F na) (77 + na) (.inl none) (hb_w (hb_u2 G 32 9 (-1)) F na) (77 + na) := by
  refine hb_M_in rfl rfl (by decide) rfl (Nat.le_of_ble_eq_true rfl) ?_
  intro E z0 σ0
  refine aw_ald0 dX4_forget_0 ?_
  refine aw_iconst dX4_forget_1 ?_
  refine aw_putw dX4_forget_2 hbf_X4_26 hbS_X4 (fun C T n h9 => by cases h9; exact ⟨rfl, by decide +kernel, fun h8 => by cases h8⟩) rfl rfl rfl ?_
  exact aw_vret dX4_forget_5 rfl rfl rfl rfl (by decide) (by decide)
set_option maxRecDepth 20000 in
set_option maxHeartbeats 1000000 in
theorem c_binds {l : Launch} {G : hb_G} {F : hb_F} {na : Nat} {o9 t : Int} (ho : hb_in o9) (ht : 0 ≤ t ∧ t < 40) (hG : hb_rg G) : hb_M l yX4_binds cX4_binds 3 (some .boolean) 2 0 0 [hb_r 32, hb_i o9, hb_i t] (hb_w G F na) (77 + na) (.inl (some (hb_i (hb_b (hb_bd G o9 t))))) (hb_w G F na) (77 + na) := by
  refine hb_M_in rfl rfl (by decide) rfl (Nat.le_of_ble_eq_true rfl) ?_
  intro E z0 σ0
  refine aw_ald0 dX4_binds_0 ?_
  refine aw_getf dX4_binds_1 hbf_X4_38 rfl rfl ?_
  refine aw_ild1 dX4_binds_4 ?_
  refine aw_V1v dX4_binds_5 (c_ordersHas (by first | assumption | omega | (constructor <;> omega) | exact hG _ _) hG) rfl rfl hbY_X3_has hbm_X4_153 hbi_X3_has hbe_X3_X3_has (Nat.le_of_ble_eq_true rfl) ⟨by decide, by decide⟩ (by decide) (by decide) ?_
  refine aw_ifb_eq (tg := 49) dX4_binds_8 (by decide) (fun c8 => ?_) (fun c8 => ?_)
  · skip
    refine aw_iconst dX4_binds_49 ?_
    exact aw_zret dX4_binds_50 rfl (by first | omega | exact hb_b01 _) (by first | exact hb_oi1 ⟨by omega, by assumption, by assumption⟩ | exact hb_oi0 (fun h9 => absurd h9.1 (by assumption)) | exact hb_oi0 (fun h9 => absurd h9.2.1 (by assumption)) | exact hb_oi0 (fun h9 => absurd h9.2.2 (by assumption))) rfl rfl (by decide) (by decide)
  · skip
    refine aw_ald0 dX4_binds_11 ?_
    refine aw_getf dX4_binds_12 hbf_X4_38 rfl rfl ?_
    refine aw_ild1 dX4_binds_15 ?_
    refine aw_ild2 dX4_binds_16 ?_
    refine aw_ald0 dX4_binds_17 ?_
    refine aw_getf dX4_binds_18 hbf_X4_30 rfl rfl ?_
    refine aw_getf dX4_binds_21 hbf_X4_156 rfl rfl ?_
    refine aw_ild2 dX4_binds_24 ?_
    refine aw_iald dX4_binds_25 rfl (by constructor <;> omega) (by decide) ?_
    refine aw_V3v dX4_binds_26 (c_isFor (by first | assumption | omega | (constructor <;> omega) | exact hG _ _) (by first | assumption | omega | (constructor <;> omega) | exact hG _ _) (by first | assumption | omega | (constructor <;> omega) | exact hG _ _) hG) rfl rfl hbY_X3_isFor hbm_X4_159 hbi_X3_isFor hbe_X3_X3_isFor (Nat.le_of_ble_eq_true rfl) ⟨by decide, by decide⟩ (by decide) (by decide) ?_
    refine aw_ifb_eq (tg := 49) dX4_binds_29 (by decide) (fun c29 => ?_) (fun c29 => ?_)
    · skip
      refine aw_iconst dX4_binds_49 ?_
      exact aw_zret dX4_binds_50 rfl (by first | omega | exact hb_b01 _) (by first | exact hb_oi1 ⟨by omega, by assumption, by assumption⟩ | exact hb_oi0 (fun h9 => absurd h9.1 (by assumption)) | exact hb_oi0 (fun h9 => absurd h9.2.1 (by assumption)) | exact hb_oi0 (fun h9 => absurd h9.2.2 (by assumption))) rfl rfl (by decide) (by decide)
    · skip
      refine aw_ald0 dX4_binds_32 ?_
      refine aw_getf dX4_binds_33 hbf_X4_23 rfl rfl ?_
      refine aw_ild2 dX4_binds_36 ?_
      refine aw_iald dX4_binds_37 rfl (by constructor <;> omega) (by decide) ?_
      refine aw_iconst dX4_binds_38 ?_
      refine aw_ild1 dX4_binds_39 ?_
      refine aw_ishl dX4_binds_40 ?_
      refine aw_iand dX4_binds_41 ?_
      refine aw_if_ne (tg := 49) dX4_binds_42 (by decide) (hb_an_in _ _) (fun c42 => ?_) (fun c42 => ?_)
      · skip
        refine aw_iconst dX4_binds_49 ?_
        exact aw_zret dX4_binds_50 rfl (by first | omega | exact hb_b01 _) (by first | exact hb_oi1 ⟨by omega, by assumption, by assumption⟩ | exact hb_oi0 (fun h9 => absurd h9.1 (by assumption)) | exact hb_oi0 (fun h9 => absurd h9.2.1 (by assumption)) | exact hb_oi0 (fun h9 => absurd h9.2.2 (by assumption))) rfl rfl (by decide) (by decide)
      · skip
        refine aw_iconst dX4_binds_45 ?_
        refine aw_goto (tg := 50) dX4_binds_46 (by decide) ?_
        exact aw_zret dX4_binds_50 rfl (by first | omega | exact hb_b01 _) (by first | exact hb_oi1 ⟨by omega, by assumption, by assumption⟩ | exact hb_oi0 (fun h9 => absurd h9.1 (by assumption)) | exact hb_oi0 (fun h9 => absurd h9.2.1 (by assumption)) | exact hb_oi0 (fun h9 => absurd h9.2.2 (by assumption))) rfl rfl (by decide) (by decide)
def hb_xI (G : hb_G) (k j : Int) : Prop := ∃ o9, (0 ≤ o9 ∧ o9 < j) ∧ (G 20 o9 ≠ -1 ∧ G 23 o9 = k)
def hb_xB (G : hb_G) (t k j : Int) : Prop := ∃ o9, (0 ≤ o9 ∧ o9 < j) ∧ (G 20 o9 ≠ -1 ∧ G 23 o9 = k ∧ hb_bd G o9 t)
def hb_xR (G : hb_G) (t k j : Int) : Prop := ∃ o9, (0 ≤ o9 ∧ o9 < j) ∧ (hb_bd G o9 t ∧ G 24 o9 = k)
set_option maxRecDepth 20000 in
set_option maxHeartbeats 1000000 in
theorem c_isAsked {l : Launch} {G : hb_G} {F : hb_F} {na : Nat} {t k : Int} (ht : 0 ≤ t ∧ t < 40) (hk : hb_in k) (hG : hb_rg G) : hb_M l yX4_isAsked cX4_isAsked 7 (some .boolean) 3 0 0 [hb_r 32, hb_i t, hb_i k] (hb_w G F na) (77 + na) (.inl (some (hb_i (hb_b (hb_ak G t k))))) (hb_w G F na) (77 + na) := by
  refine hb_M_in rfl rfl (by decide) rfl (Nat.le_of_ble_eq_true rfl) ?_
  intro E z0 σ0
  have key : ∀ (n : Nat) (j io ib : Int), 0 ≤ j → j ≤ 8 → 8 - j < n → (io = 0 ∨ io = 1) → (ib = 0 ∨ ib = 1) → (io = 1 ↔ hb_xI G k j) → (ib = 1 ↔ hb_xB G t k j) → (¬ hb_xR G t k j) → (0 ≤ k ∧ k < 16 ∧ G 13 k ≠ -1) → G 13 k = G 7 t → hb_W l RX4 cX4_isAsked 7 (some .boolean) "isAsked" [] E z0 (hb_rm 3 0 0) σ0 (77 + na) (.inl (some (hb_i (hb_b (hb_ak G t k))))) (hb_w G F na) (77 + na) 0 0 42 [hb_r 32, hb_i t, hb_i k, hb_i io, hb_i ib, hb_i j] [] (hb_w G F na) (77 + na) := by
    intro n
    induction n with
    | zero => intro j io ib h1 h2 h3; omega
    | succ n ih =>
      intro j io ib h1 h2 h3 hio hib hI hB hR hk1 hk2
      refine aw_ild5 dX4_isAsked_42 ?_
      refine aw_bipush dX4_isAsked_44 (by decide) ?_
      refine aw_icmp_ge (tg := 130) dX4_isAsked_46 (by decide) (by first | exact hG _ _ | (constructor <;> omega)) (by first | exact hG _ _ | (constructor <;> omega)) (fun c46 => ?_) (fun c46 => ?_)
      · skip
        refine aw_ild4 dX4_isAsked_130 ?_
        refine aw_if_ne (tg := 139) dX4_isAsked_132 (by decide) (by first | exact hG _ _ | (constructor <;> omega)) (fun c132 => ?_) (fun c132 => ?_)
        · skip
          refine aw_iconst dX4_isAsked_139 ?_
          refine aw_goto (tg := 144) dX4_isAsked_140 (by decide) ?_
          exact aw_zret dX4_isAsked_144 rfl (by first | omega | exact hb_b01 _) (by first | exact hb_oi1 ⟨hk1, hk2, (by have e9 : j = 8 := (by omega); subst e9; exact hR), (by have e9 : j = 8 := (by omega); subst e9; first | exact Or.inl (hB.mp (by omega)) | exact Or.inr (fun h9 => by have := hI.mpr h9; omega))⟩ | exact hb_oi0 (fun (h9 : hb_ak G t k) => by have e9 : j = 8 := (by omega); subst e9; rcases h9.2.2.2 with h8 | h8; (have := hB.mpr h8; omega); (exact h8 (hI.mp (by omega)))) | exact hb_oi0 (fun h9 => h9.2.2.1 ⟨j, by omega, by assumption, by assumption⟩)) rfl rfl (by decide) (by decide)
        · skip
          refine aw_ild3 dX4_isAsked_135 ?_
          refine aw_if_ne (tg := 143) dX4_isAsked_136 (by decide) (by first | exact hG _ _ | (constructor <;> omega)) (fun c136 => ?_) (fun c136 => ?_)
          · skip
            refine aw_iconst dX4_isAsked_143 ?_
            exact aw_zret dX4_isAsked_144 rfl (by first | omega | exact hb_b01 _) (by first | exact hb_oi1 ⟨hk1, hk2, (by have e9 : j = 8 := (by omega); subst e9; exact hR), (by have e9 : j = 8 := (by omega); subst e9; first | exact Or.inl (hB.mp (by omega)) | exact Or.inr (fun h9 => by have := hI.mpr h9; omega))⟩ | exact hb_oi0 (fun (h9 : hb_ak G t k) => by have e9 : j = 8 := (by omega); subst e9; rcases h9.2.2.2 with h8 | h8; (have := hB.mpr h8; omega); (exact h8 (hI.mp (by omega)))) | exact hb_oi0 (fun h9 => h9.2.2.1 ⟨j, by omega, by assumption, by assumption⟩)) rfl rfl (by decide) (by decide)
          · skip
            refine aw_iconst dX4_isAsked_139 ?_
            refine aw_goto (tg := 144) dX4_isAsked_140 (by decide) ?_
            exact aw_zret dX4_isAsked_144 rfl (by first | omega | exact hb_b01 _) (by first | exact hb_oi1 ⟨hk1, hk2, (by have e9 : j = 8 := (by omega); subst e9; exact hR), (by have e9 : j = 8 := (by omega); subst e9; first | exact Or.inl (hB.mp (by omega)) | exact Or.inr (fun h9 => by have := hI.mpr h9; omega))⟩ | exact hb_oi0 (fun (h9 : hb_ak G t k) => by have e9 : j = 8 := (by omega); subst e9; rcases h9.2.2.2 with h8 | h8; (have := hB.mpr h8; omega); (exact h8 (hI.mp (by omega)))) | exact hb_oi0 (fun h9 => h9.2.2.1 ⟨j, by omega, by assumption, by assumption⟩)) rfl rfl (by decide) (by decide)
      · skip
        refine aw_ald0 dX4_isAsked_49 ?_
        refine aw_ild5 dX4_isAsked_50 ?_
        refine aw_ild1 dX4_isAsked_52 ?_
        refine aw_V2v dX4_isAsked_53 (c_binds (by first | assumption | omega | (constructor <;> omega) | exact hG _ _) (by first | assumption | omega | (constructor <;> omega) | exact hG _ _) hG) rfl rfl hbY_X4_binds hbm_X4_164 hbi_X4_binds hbe_X4_X4_binds (Nat.le_of_ble_eq_true rfl) ⟨by decide, by decide⟩ (by decide) (by decide) ?_
        refine aw_ipu6 dX4_isAsked_56 (by decide) ?_
        refine aw_ild6 dX4_isAsked_58 ?_
        refine aw_ifb_eq (tg := 79) dX4_isAsked_60 (by decide) (fun c60 => ?_) (fun c60 => ?_)
        · skip
          refine aw_ald0 dX4_isAsked_79 ?_
          refine aw_getf dX4_isAsked_80 hbf_X4_38 rfl rfl ?_
          refine aw_ild5 dX4_isAsked_83 ?_
          refine aw_V1v dX4_isAsked_85 (c_ordersHas (by first | assumption | omega | (constructor <;> omega) | exact hG _ _) hG) rfl rfl hbY_X3_has hbm_X4_153 hbi_X3_has hbe_X3_X3_has (Nat.le_of_ble_eq_true rfl) ⟨by decide, by decide⟩ (by decide) (by decide) ?_
          refine aw_ifb_eq (tg := 124) dX4_isAsked_88 (by decide) (fun c88 => ?_) (fun c88 => ?_)
          · skip
            refine aw_iinc5 dX4_isAsked_124 (by decide) ?_
            refine aw_goto (tg := 42) dX4_isAsked_127 (by decide) ?_
            refine aw_dk_6_1 ?_
            refine ih (j + 1) _ _ (by omega) (by omega) (by omega) (by omega) (by omega) ?_ ?_ ?_ hk1 hk2
            · unfold hb_xI at hI ⊢; rw [hb_exs h1]; grind
            · unfold hb_xB at hB ⊢; rw [hb_exs h1]; grind
            · unfold hb_xR at hR ⊢; rw [hb_exs h1]; grind
          · skip
            refine aw_ald0 dX4_isAsked_91 ?_
            refine aw_getf dX4_isAsked_92 hbf_X4_38 rfl rfl ?_
            refine aw_getf dX4_isAsked_95 hbf_X4_171 rfl rfl ?_
            refine aw_ild5 dX4_isAsked_98 ?_
            refine aw_iald dX4_isAsked_100 rfl (by constructor <;> omega) (by decide) ?_
            refine aw_ild2 dX4_isAsked_101 ?_
            refine aw_icmp_ne (tg := 124) dX4_isAsked_102 (by decide) (by first | exact hG _ _ | (constructor <;> omega)) (by first | exact hG _ _ | (constructor <;> omega)) (fun c102 => ?_) (fun c102 => ?_)
            · skip
              refine aw_iinc5 dX4_isAsked_124 (by decide) ?_
              refine aw_goto (tg := 42) dX4_isAsked_127 (by decide) ?_
              refine aw_dk_6_1 ?_
              refine ih (j + 1) _ _ (by omega) (by omega) (by omega) (by omega) (by omega) ?_ ?_ ?_ hk1 hk2
              · unfold hb_xI at hI ⊢; rw [hb_exs h1]; grind
              · unfold hb_xB at hB ⊢; rw [hb_exs h1]; grind
              · unfold hb_xR at hR ⊢; rw [hb_exs h1]; grind
            · skip
              refine aw_iconst dX4_isAsked_105 ?_
              refine aw_ist3 dX4_isAsked_106 (by decide) ?_
              refine aw_ild4 dX4_isAsked_107 ?_
              refine aw_if_ne (tg := 117) dX4_isAsked_109 (by decide) (by first | exact hG _ _ | (constructor <;> omega)) (fun c109 => ?_) (fun c109 => ?_)
              · skip
                refine aw_iconst dX4_isAsked_117 ?_
                refine aw_goto (tg := 122) dX4_isAsked_118 (by decide) ?_
                refine aw_ist4 dX4_isAsked_122 (by decide) ?_
                refine aw_iinc5 dX4_isAsked_124 (by decide) ?_
                refine aw_goto (tg := 42) dX4_isAsked_127 (by decide) ?_
                refine aw_dk_6_1 ?_
                refine ih (j + 1) _ _ (by omega) (by omega) (by omega) (by omega) (by omega) ?_ ?_ ?_ hk1 hk2
                · unfold hb_xI at hI ⊢; rw [hb_exs h1]; grind
                · unfold hb_xB at hB ⊢; rw [hb_exs h1]; grind
                · unfold hb_xR at hR ⊢; rw [hb_exs h1]; grind
              · skip
                refine aw_ild6 dX4_isAsked_112 ?_
                refine aw_ifb_eq (tg := 121) dX4_isAsked_114 (by decide) (fun c114 => ?_) (fun c114 => ?_)
                · skip
                  refine aw_iconst dX4_isAsked_121 ?_
                  refine aw_ist4 dX4_isAsked_122 (by decide) ?_
                  refine aw_iinc5 dX4_isAsked_124 (by decide) ?_
                  refine aw_goto (tg := 42) dX4_isAsked_127 (by decide) ?_
                  refine aw_dk_6_1 ?_
                  refine ih (j + 1) _ _ (by omega) (by omega) (by omega) (by omega) (by omega) ?_ ?_ ?_ hk1 hk2
                  · unfold hb_xI at hI ⊢; rw [hb_exs h1]; grind
                  · unfold hb_xB at hB ⊢; rw [hb_exs h1]; grind
                  · unfold hb_xR at hR ⊢; rw [hb_exs h1]; grind
                · skip
                  refine aw_iconst dX4_isAsked_117 ?_
                  refine aw_goto (tg := 122) dX4_isAsked_118 (by decide) ?_
                  refine aw_ist4 dX4_isAsked_122 (by decide) ?_
                  refine aw_iinc5 dX4_isAsked_124 (by decide) ?_
                  refine aw_goto (tg := 42) dX4_isAsked_127 (by decide) ?_
                  refine aw_dk_6_1 ?_
                  refine ih (j + 1) _ _ (by omega) (by omega) (by omega) (by omega) (by omega) ?_ ?_ ?_ hk1 hk2
                  · unfold hb_xI at hI ⊢; rw [hb_exs h1]; grind
                  · unfold hb_xB at hB ⊢; rw [hb_exs h1]; grind
                  · unfold hb_xR at hR ⊢; rw [hb_exs h1]; grind
        · skip
          refine aw_ald0 dX4_isAsked_63 ?_
          refine aw_getf dX4_isAsked_64 hbf_X4_38 rfl rfl ?_
          refine aw_getf dX4_isAsked_67 hbf_X4_168 rfl rfl ?_
          refine aw_ild5 dX4_isAsked_70 ?_
          refine aw_iald dX4_isAsked_72 rfl (by constructor <;> omega) (by decide) ?_
          refine aw_ild2 dX4_isAsked_73 ?_
          refine aw_icmp_ne (tg := 79) dX4_isAsked_74 (by decide) (by first | exact hG _ _ | (constructor <;> omega)) (by first | exact hG _ _ | (constructor <;> omega)) (fun c74 => ?_) (fun c74 => ?_)
          · skip
            refine aw_ald0 dX4_isAsked_79 ?_
            refine aw_getf dX4_isAsked_80 hbf_X4_38 rfl rfl ?_
            refine aw_ild5 dX4_isAsked_83 ?_
            refine aw_V1v dX4_isAsked_85 (c_ordersHas (by first | assumption | omega | (constructor <;> omega) | exact hG _ _) hG) rfl rfl hbY_X3_has hbm_X4_153 hbi_X3_has hbe_X3_X3_has (Nat.le_of_ble_eq_true rfl) ⟨by decide, by decide⟩ (by decide) (by decide) ?_
            refine aw_ifb_eq (tg := 124) dX4_isAsked_88 (by decide) (fun c88 => ?_) (fun c88 => ?_)
            · skip
              refine aw_iinc5 dX4_isAsked_124 (by decide) ?_
              refine aw_goto (tg := 42) dX4_isAsked_127 (by decide) ?_
              refine aw_dk_6_1 ?_
              refine ih (j + 1) _ _ (by omega) (by omega) (by omega) (by omega) (by omega) ?_ ?_ ?_ hk1 hk2
              · unfold hb_xI at hI ⊢; rw [hb_exs h1]; grind
              · unfold hb_xB at hB ⊢; rw [hb_exs h1]; grind
              · unfold hb_xR at hR ⊢; rw [hb_exs h1]; grind
            · skip
              refine aw_ald0 dX4_isAsked_91 ?_
              refine aw_getf dX4_isAsked_92 hbf_X4_38 rfl rfl ?_
              refine aw_getf dX4_isAsked_95 hbf_X4_171 rfl rfl ?_
              refine aw_ild5 dX4_isAsked_98 ?_
              refine aw_iald dX4_isAsked_100 rfl (by constructor <;> omega) (by decide) ?_
              refine aw_ild2 dX4_isAsked_101 ?_
              refine aw_icmp_ne (tg := 124) dX4_isAsked_102 (by decide) (by first | exact hG _ _ | (constructor <;> omega)) (by first | exact hG _ _ | (constructor <;> omega)) (fun c102 => ?_) (fun c102 => ?_)
              · skip
                refine aw_iinc5 dX4_isAsked_124 (by decide) ?_
                refine aw_goto (tg := 42) dX4_isAsked_127 (by decide) ?_
                refine aw_dk_6_1 ?_
                refine ih (j + 1) _ _ (by omega) (by omega) (by omega) (by omega) (by omega) ?_ ?_ ?_ hk1 hk2
                · unfold hb_xI at hI ⊢; rw [hb_exs h1]; grind
                · unfold hb_xB at hB ⊢; rw [hb_exs h1]; grind
                · unfold hb_xR at hR ⊢; rw [hb_exs h1]; grind
              · skip
                refine aw_iconst dX4_isAsked_105 ?_
                refine aw_ist3 dX4_isAsked_106 (by decide) ?_
                refine aw_ild4 dX4_isAsked_107 ?_
                refine aw_if_ne (tg := 117) dX4_isAsked_109 (by decide) (by first | exact hG _ _ | (constructor <;> omega)) (fun c109 => ?_) (fun c109 => ?_)
                · skip
                  refine aw_iconst dX4_isAsked_117 ?_
                  refine aw_goto (tg := 122) dX4_isAsked_118 (by decide) ?_
                  refine aw_ist4 dX4_isAsked_122 (by decide) ?_
                  refine aw_iinc5 dX4_isAsked_124 (by decide) ?_
                  refine aw_goto (tg := 42) dX4_isAsked_127 (by decide) ?_
                  refine aw_dk_6_1 ?_
                  refine ih (j + 1) _ _ (by omega) (by omega) (by omega) (by omega) (by omega) ?_ ?_ ?_ hk1 hk2
                  · unfold hb_xI at hI ⊢; rw [hb_exs h1]; grind
                  · unfold hb_xB at hB ⊢; rw [hb_exs h1]; grind
                  · unfold hb_xR at hR ⊢; rw [hb_exs h1]; grind
                · skip
                  refine aw_ild6 dX4_isAsked_112 ?_
                  refine aw_ifb_eq (tg := 121) dX4_isAsked_114 (by decide) (fun c114 => ?_) (fun c114 => ?_)
                  · skip
                    refine aw_iconst dX4_isAsked_121 ?_
                    refine aw_ist4 dX4_isAsked_122 (by decide) ?_
                    refine aw_iinc5 dX4_isAsked_124 (by decide) ?_
                    refine aw_goto (tg := 42) dX4_isAsked_127 (by decide) ?_
                    refine aw_dk_6_1 ?_
                    refine ih (j + 1) _ _ (by omega) (by omega) (by omega) (by omega) (by omega) ?_ ?_ ?_ hk1 hk2
                    · unfold hb_xI at hI ⊢; rw [hb_exs h1]; grind
                    · unfold hb_xB at hB ⊢; rw [hb_exs h1]; grind
                    · unfold hb_xR at hR ⊢; rw [hb_exs h1]; grind
                  · skip
                    refine aw_iconst dX4_isAsked_117 ?_
                    refine aw_goto (tg := 122) dX4_isAsked_118 (by decide) ?_
                    refine aw_ist4 dX4_isAsked_122 (by decide) ?_
                    refine aw_iinc5 dX4_isAsked_124 (by decide) ?_
                    refine aw_goto (tg := 42) dX4_isAsked_127 (by decide) ?_
                    refine aw_dk_6_1 ?_
                    refine ih (j + 1) _ _ (by omega) (by omega) (by omega) (by omega) (by omega) ?_ ?_ ?_ hk1 hk2
                    · unfold hb_xI at hI ⊢; rw [hb_exs h1]; grind
                    · unfold hb_xB at hB ⊢; rw [hb_exs h1]; grind
                    · unfold hb_xR at hR ⊢; rw [hb_exs h1]; grind
          · skip
            refine aw_iconst dX4_isAsked_77 ?_
            exact aw_zret dX4_isAsked_78 rfl (by first | omega | exact hb_b01 _) (by first | exact hb_oi1 ⟨hk1, hk2, (by have e9 : j = 8 := (by omega); subst e9; exact hR), (by have e9 : j = 8 := (by omega); subst e9; first | exact Or.inl (hB.mp (by omega)) | exact Or.inr (fun h9 => by have := hI.mpr h9; omega))⟩ | exact hb_oi0 (fun (h9 : hb_ak G t k) => by have e9 : j = 8 := (by omega); subst e9; rcases h9.2.2.2 with h8 | h8; (have := hB.mpr h8; omega); (exact h8 (hI.mp (by omega)))) | exact hb_oi0 (fun h9 => h9.2.2.1 ⟨j, by omega, by assumption, by assumption⟩)) rfl rfl (by decide) (by decide)
  refine aw_ald0 dX4_isAsked_0 ?_
  refine aw_getf dX4_isAsked_1 hbf_X4_34 rfl rfl ?_
  refine aw_ild2 dX4_isAsked_4 ?_
  refine aw_V1v dX4_isAsked_5 (c_tasksHas (by first | assumption | omega | (constructor <;> omega) | exact hG _ _) hG) rfl rfl hbY_X5_has hbm_X4_98 hbi_X5_has hbe_X5_X5_has (Nat.le_of_ble_eq_true rfl) ⟨by decide, by decide⟩ (by decide) (by decide) ?_
  refine aw_ifb_eq (tg := 32) dX4_isAsked_8 (by decide) (fun c8 => ?_) (fun c8 => ?_)
  · skip
    refine aw_iconst dX4_isAsked_32 ?_
    exact aw_zret dX4_isAsked_33 rfl (by first | omega | exact hb_b01 _) (by first | exact hb_oi0 (fun h9 => absurd h9.1 (by assumption)) | exact hb_oi0 (fun h9 => absurd h9.2.1 (by assumption))) rfl rfl (by decide) (by decide)
  · skip
    refine aw_ald0 dX4_isAsked_11 ?_
    refine aw_getf dX4_isAsked_12 hbf_X4_34 rfl rfl ?_
    refine aw_getf dX4_isAsked_15 hbf_X4_163 rfl rfl ?_
    refine aw_ild2 dX4_isAsked_18 ?_
    refine aw_iald dX4_isAsked_19 rfl (by constructor <;> omega) (by decide) ?_
    refine aw_ald0 dX4_isAsked_20 ?_
    refine aw_getf dX4_isAsked_21 hbf_X4_30 rfl rfl ?_
    refine aw_getf dX4_isAsked_24 hbf_X4_156 rfl rfl ?_
    refine aw_ild1 dX4_isAsked_27 ?_
    refine aw_iald dX4_isAsked_28 rfl (by constructor <;> omega) (by decide) ?_
    refine aw_icmp_eq (tg := 34) dX4_isAsked_29 (by decide) (by first | exact hG _ _ | (constructor <;> omega)) (by first | exact hG _ _ | (constructor <;> omega)) (fun c29 => ?_) (fun c29 => ?_)
    · skip
      refine aw_iconst dX4_isAsked_34 ?_
      refine aw_ipu3 dX4_isAsked_35 (by decide) ?_
      refine aw_iconst dX4_isAsked_36 ?_
      refine aw_ipu4 dX4_isAsked_37 (by decide) ?_
      refine aw_iconst dX4_isAsked_39 ?_
      refine aw_ipu5 dX4_isAsked_40 (by decide) ?_
      exact key 9 0 0 0 (by omega) (by omega) (by omega) (by omega) (by omega) ⟨fun h9 => by omega, fun ⟨o9, h8, _⟩ => by omega⟩ ⟨fun h9 => by omega, fun ⟨o9, h8, _⟩ => by omega⟩ (fun ⟨o9, h8, _⟩ => by omega) (by assumption) (by assumption)
    · skip
      refine aw_iconst dX4_isAsked_32 ?_
      exact aw_zret dX4_isAsked_33 rfl (by first | omega | exact hb_b01 _) (by first | exact hb_oi0 (fun h9 => absurd h9.1 (by assumption)) | exact hb_oi0 (fun h9 => absurd h9.2.1 (by assumption))) rfl rfl (by decide) (by decide)
set_option maxRecDepth 20000 in
set_option maxHeartbeats 1000000 in
theorem c_firstDayAbove0 {l : Launch} {G : hb_G} {F : hb_F} {na : Nat} {t k day pace : Int} (ht : 0 ≤ t ∧ t < 40) (hk : 0 ≤ k ∧ k < 16) (hd : 0 ≤ day ∧ day ≤ 30000) (hpc : 0 ≤ pace ∧ pace ≤ 1440) (hdu : -1000000000 ≤ G 41 (t * 16 + k) ∧ G 41 (t * 16 + k) ≤ 1000000000) (hcn : -1000000000 ≤ hb_cn G t 0 day ∧ hb_cn G t 0 day ≤ 1000000000) (hG : hb_rg G) : hb_M l yX4_firstDayAbove cX4_firstDayAbove 7 (some .int) 1 0 0 [hb_r 32, hb_i t, hb_i k, hb_i 0, hb_i day, hb_i pace] (hb_w G F na) (77 + na) (.inl (some (hb_i (hb_fa (G 15 k) (G 41 (t * 16 + k)) (hb_cn G t 0 day) day pace)))) (hb_w G F na) (77 + na) := by
  refine hb_M_in rfl rfl (by decide) rfl (Nat.le_of_ble_eq_true rfl) ?_
  intro E z0 σ0
  refine aw_ald0 dX4_firstDayAbove_0 ?_
  refine aw_getf dX4_firstDayAbove_1 hbf_X4_34 rfl rfl ?_
  refine aw_getf dX4_firstDayAbove_4 hbf_X4_101 rfl rfl ?_
  refine aw_ild3 dX4_firstDayAbove_7 ?_
  refine aw_gald (r := some 15) dX4_firstDayAbove_8 rfl (by decide) (by decide) rfl ?_
  refine aw_ild2 dX4_firstDayAbove_9 ?_
  refine aw_iald dX4_firstDayAbove_10 rfl (by constructor <;> omega) (by decide) ?_
  refine aw_if_ne (tg := 17) dX4_firstDayAbove_11 (by decide) (by first | exact hG _ _ | (constructor <;> omega)) (fun c11 => ?_) (fun c11 => ?_)
  · skip
    refine aw_ald0 dX4_firstDayAbove_17 ?_
    refine aw_getf dX4_firstDayAbove_18 hbf_X4_16 rfl rfl ?_
    refine aw_ild3 dX4_firstDayAbove_21 ?_
    refine aw_gald (r := some 41) dX4_firstDayAbove_22 rfl (by decide) (by decide) rfl ?_
    refine aw_ild1 dX4_firstDayAbove_23 ?_
    refine aw_bipush dX4_firstDayAbove_24 (by decide) ?_
    refine aw_imul dX4_firstDayAbove_26 ?_
    refine aw_ild2 dX4_firstDayAbove_27 ?_
    refine aw_iadd dX4_firstDayAbove_28 ?_
    refine aw_iald dX4_firstDayAbove_29 rfl (by constructor <;> omega) (by decide) ?_
    refine aw_ald0 dX4_firstDayAbove_30 ?_
    refine aw_ild1 dX4_firstDayAbove_31 ?_
    refine aw_ild3 dX4_firstDayAbove_32 ?_
    refine aw_ild4 dX4_firstDayAbove_33 ?_
    refine aw_V3v dX4_firstDayAbove_35 (c_counterOf (by omega) (by first | assumption | omega | (constructor <;> omega) | exact hG _ _)) rfl rfl hbY_X4_counterOf hbm_X4_139 hbi_X4_counterOf hbe_X4_X4_counterOf (Nat.le_of_ble_eq_true rfl) ⟨by decide, by decide⟩ (by decide) (by decide) ?_
    refine aw_isub dX4_firstDayAbove_38 ?_
    refine aw_ipu6 dX4_firstDayAbove_39 (by decide) ?_
    refine aw_ild6 dX4_firstDayAbove_41 ?_
    refine aw_if_ge (tg := 49) dX4_firstDayAbove_43 (by decide) (by first | exact hG _ _ | (constructor <;> omega)) (fun c43 => ?_) (fun c43 => ?_)
    · skip
      refine aw_ild5 dX4_firstDayAbove_49 ?_
      refine aw_if_ne (tg := 59) dX4_firstDayAbove_51 (by decide) (by first | exact hG _ _ | (constructor <;> omega)) (fun c51 => ?_) (fun c51 => ?_)
      · skip
        refine aw_ild4 dX4_firstDayAbove_59 ?_
        refine aw_ild6 dX4_firstDayAbove_61 ?_
        refine aw_ild5 dX4_firstDayAbove_63 ?_
        refine aw_idiv dX4_firstDayAbove_65 (by constructor <;> omega) (by constructor <;> omega) (by omega) (by omega) ?_
        refine aw_iadd dX4_firstDayAbove_66 ?_
        refine aw_iconst dX4_firstDayAbove_67 ?_
        refine aw_iadd dX4_firstDayAbove_68 ?_
        exact aw_iret dX4_firstDayAbove_69 rfl (by unfold hb_fa; first | rw [if_pos (by assumption)] | rw [if_neg (by assumption), if_pos (by omega)] | rw [if_neg (by assumption), if_neg (by omega), if_pos (by assumption)] | rw [if_neg (by assumption), if_neg (by omega), if_neg (by assumption)]) rfl rfl (by decide) (by decide)
      · skip
        refine aw_ldc (z := 40001) dX4_firstDayAbove_54 hbk_X4_192 ?_
        refine aw_goto (tg := 69) dX4_firstDayAbove_56 (by decide) ?_
        exact aw_iret dX4_firstDayAbove_69 rfl (by unfold hb_fa; first | rw [if_pos (by assumption)] | rw [if_neg (by assumption), if_pos (by omega)] | rw [if_neg (by assumption), if_neg (by omega), if_pos (by assumption)] | rw [if_neg (by assumption), if_neg (by omega), if_neg (by assumption)]) rfl rfl (by decide) (by decide)
    · skip
      refine aw_ild4 dX4_firstDayAbove_46 ?_
      exact aw_iret dX4_firstDayAbove_48 rfl (by unfold hb_fa; first | rw [if_pos (by assumption)] | rw [if_neg (by assumption), if_pos (by omega)] | rw [if_neg (by assumption), if_neg (by omega), if_pos (by assumption)] | rw [if_neg (by assumption), if_neg (by omega), if_neg (by assumption)]) rfl rfl (by decide) (by decide)
  · skip
    refine aw_ldc (z := 40001) dX4_firstDayAbove_14 hbk_X4_192 ?_
    exact aw_iret dX4_firstDayAbove_16 rfl (by unfold hb_fa; first | rw [if_pos (by assumption)] | rw [if_neg (by assumption), if_pos (by omega)] | rw [if_neg (by assumption), if_neg (by omega), if_pos (by assumption)] | rw [if_neg (by assumption), if_neg (by omega), if_neg (by assumption)]) rfl rfl (by decide) (by decide)
set_option maxRecDepth 20000 in
set_option maxHeartbeats 1000000 in
theorem c_firstDayAbove1 {l : Launch} {G : hb_G} {F : hb_F} {na : Nat} {t k day pace : Int} (ht : 0 ≤ t ∧ t < 40) (hk : 0 ≤ k ∧ k < 16) (hd : 0 ≤ day ∧ day ≤ 30000) (hpc : 0 ≤ pace ∧ pace ≤ 1440) (hdu : -1000000000 ≤ G 42 (t * 16 + k) ∧ G 42 (t * 16 + k) ≤ 1000000000) (hcn : -1000000000 ≤ hb_cn G t 1 day ∧ hb_cn G t 1 day ≤ 1000000000) (hG : hb_rg G) : hb_M l yX4_firstDayAbove cX4_firstDayAbove 7 (some .int) 1 0 0 [hb_r 32, hb_i t, hb_i k, hb_i 1, hb_i day, hb_i pace] (hb_w G F na) (77 + na) (.inl (some (hb_i (hb_fa (G 16 k) (G 42 (t * 16 + k)) (hb_cn G t 1 day) day pace)))) (hb_w G F na) (77 + na) := by
  refine hb_M_in rfl rfl (by decide) rfl (Nat.le_of_ble_eq_true rfl) ?_
  intro E z0 σ0
  refine aw_ald0 dX4_firstDayAbove_0 ?_
  refine aw_getf dX4_firstDayAbove_1 hbf_X4_34 rfl rfl ?_
  refine aw_getf dX4_firstDayAbove_4 hbf_X4_101 rfl rfl ?_
  refine aw_ild3 dX4_firstDayAbove_7 ?_
  refine aw_gald (r := some 16) dX4_firstDayAbove_8 rfl (by decide) (by decide) rfl ?_
  refine aw_ild2 dX4_firstDayAbove_9 ?_
  refine aw_iald dX4_firstDayAbove_10 rfl (by constructor <;> omega) (by decide) ?_
  refine aw_if_ne (tg := 17) dX4_firstDayAbove_11 (by decide) (by first | exact hG _ _ | (constructor <;> omega)) (fun c11 => ?_) (fun c11 => ?_)
  · skip
    refine aw_ald0 dX4_firstDayAbove_17 ?_
    refine aw_getf dX4_firstDayAbove_18 hbf_X4_16 rfl rfl ?_
    refine aw_ild3 dX4_firstDayAbove_21 ?_
    refine aw_gald (r := some 42) dX4_firstDayAbove_22 rfl (by decide) (by decide) rfl ?_
    refine aw_ild1 dX4_firstDayAbove_23 ?_
    refine aw_bipush dX4_firstDayAbove_24 (by decide) ?_
    refine aw_imul dX4_firstDayAbove_26 ?_
    refine aw_ild2 dX4_firstDayAbove_27 ?_
    refine aw_iadd dX4_firstDayAbove_28 ?_
    refine aw_iald dX4_firstDayAbove_29 rfl (by constructor <;> omega) (by decide) ?_
    refine aw_ald0 dX4_firstDayAbove_30 ?_
    refine aw_ild1 dX4_firstDayAbove_31 ?_
    refine aw_ild3 dX4_firstDayAbove_32 ?_
    refine aw_ild4 dX4_firstDayAbove_33 ?_
    refine aw_V3v dX4_firstDayAbove_35 (c_counterOf (by omega) (by first | assumption | omega | (constructor <;> omega) | exact hG _ _)) rfl rfl hbY_X4_counterOf hbm_X4_139 hbi_X4_counterOf hbe_X4_X4_counterOf (Nat.le_of_ble_eq_true rfl) ⟨by decide, by decide⟩ (by decide) (by decide) ?_
    refine aw_isub dX4_firstDayAbove_38 ?_
    refine aw_ipu6 dX4_firstDayAbove_39 (by decide) ?_
    refine aw_ild6 dX4_firstDayAbove_41 ?_
    refine aw_if_ge (tg := 49) dX4_firstDayAbove_43 (by decide) (by first | exact hG _ _ | (constructor <;> omega)) (fun c43 => ?_) (fun c43 => ?_)
    · skip
      refine aw_ild5 dX4_firstDayAbove_49 ?_
      refine aw_if_ne (tg := 59) dX4_firstDayAbove_51 (by decide) (by first | exact hG _ _ | (constructor <;> omega)) (fun c51 => ?_) (fun c51 => ?_)
      · skip
        refine aw_ild4 dX4_firstDayAbove_59 ?_
        refine aw_ild6 dX4_firstDayAbove_61 ?_
        refine aw_ild5 dX4_firstDayAbove_63 ?_
        refine aw_idiv dX4_firstDayAbove_65 (by constructor <;> omega) (by constructor <;> omega) (by omega) (by omega) ?_
        refine aw_iadd dX4_firstDayAbove_66 ?_
        refine aw_iconst dX4_firstDayAbove_67 ?_
        refine aw_iadd dX4_firstDayAbove_68 ?_
        exact aw_iret dX4_firstDayAbove_69 rfl (by unfold hb_fa; first | rw [if_pos (by assumption)] | rw [if_neg (by assumption), if_pos (by omega)] | rw [if_neg (by assumption), if_neg (by omega), if_pos (by assumption)] | rw [if_neg (by assumption), if_neg (by omega), if_neg (by assumption)]) rfl rfl (by decide) (by decide)
      · skip
        refine aw_ldc (z := 40001) dX4_firstDayAbove_54 hbk_X4_192 ?_
        refine aw_goto (tg := 69) dX4_firstDayAbove_56 (by decide) ?_
        exact aw_iret dX4_firstDayAbove_69 rfl (by unfold hb_fa; first | rw [if_pos (by assumption)] | rw [if_neg (by assumption), if_pos (by omega)] | rw [if_neg (by assumption), if_neg (by omega), if_pos (by assumption)] | rw [if_neg (by assumption), if_neg (by omega), if_neg (by assumption)]) rfl rfl (by decide) (by decide)
    · skip
      refine aw_ild4 dX4_firstDayAbove_46 ?_
      exact aw_iret dX4_firstDayAbove_48 rfl (by unfold hb_fa; first | rw [if_pos (by assumption)] | rw [if_neg (by assumption), if_pos (by omega)] | rw [if_neg (by assumption), if_neg (by omega), if_pos (by assumption)] | rw [if_neg (by assumption), if_neg (by omega), if_neg (by assumption)]) rfl rfl (by decide) (by decide)
  · skip
    refine aw_ldc (z := 40001) dX4_firstDayAbove_14 hbk_X4_192 ?_
    exact aw_iret dX4_firstDayAbove_16 rfl (by unfold hb_fa; first | rw [if_pos (by assumption)] | rw [if_neg (by assumption), if_pos (by omega)] | rw [if_neg (by assumption), if_neg (by omega), if_pos (by assumption)] | rw [if_neg (by assumption), if_neg (by omega), if_neg (by assumption)]) rfl rfl (by decide) (by decide)
set_option maxRecDepth 20000 in
set_option maxHeartbeats 1000000 in
theorem c_firstDayAbove2 {l : Launch} {G : hb_G} {F : hb_F} {na : Nat} {t k day pace : Int} (ht : 0 ≤ t ∧ t < 40) (hk : 0 ≤ k ∧ k < 16) (hd : 0 ≤ day ∧ day ≤ 30000) (hpc : 0 ≤ pace ∧ pace ≤ 1440) (hdu : -1000000000 ≤ G 43 (t * 16 + k) ∧ G 43 (t * 16 + k) ≤ 1000000000) (hcn : -1000000000 ≤ hb_cn G t 2 day ∧ hb_cn G t 2 day ≤ 1000000000) (hG : hb_rg G) : hb_M l yX4_firstDayAbove cX4_firstDayAbove 7 (some .int) 1 0 0 [hb_r 32, hb_i t, hb_i k, hb_i 2, hb_i day, hb_i pace] (hb_w G F na) (77 + na) (.inl (some (hb_i (hb_fa (G 17 k) (G 43 (t * 16 + k)) (hb_cn G t 2 day) day pace)))) (hb_w G F na) (77 + na) := by
  refine hb_M_in rfl rfl (by decide) rfl (Nat.le_of_ble_eq_true rfl) ?_
  intro E z0 σ0
  refine aw_ald0 dX4_firstDayAbove_0 ?_
  refine aw_getf dX4_firstDayAbove_1 hbf_X4_34 rfl rfl ?_
  refine aw_getf dX4_firstDayAbove_4 hbf_X4_101 rfl rfl ?_
  refine aw_ild3 dX4_firstDayAbove_7 ?_
  refine aw_gald (r := some 17) dX4_firstDayAbove_8 rfl (by decide) (by decide) rfl ?_
  refine aw_ild2 dX4_firstDayAbove_9 ?_
  refine aw_iald dX4_firstDayAbove_10 rfl (by constructor <;> omega) (by decide) ?_
  refine aw_if_ne (tg := 17) dX4_firstDayAbove_11 (by decide) (by first | exact hG _ _ | (constructor <;> omega)) (fun c11 => ?_) (fun c11 => ?_)
  · skip
    refine aw_ald0 dX4_firstDayAbove_17 ?_
    refine aw_getf dX4_firstDayAbove_18 hbf_X4_16 rfl rfl ?_
    refine aw_ild3 dX4_firstDayAbove_21 ?_
    refine aw_gald (r := some 43) dX4_firstDayAbove_22 rfl (by decide) (by decide) rfl ?_
    refine aw_ild1 dX4_firstDayAbove_23 ?_
    refine aw_bipush dX4_firstDayAbove_24 (by decide) ?_
    refine aw_imul dX4_firstDayAbove_26 ?_
    refine aw_ild2 dX4_firstDayAbove_27 ?_
    refine aw_iadd dX4_firstDayAbove_28 ?_
    refine aw_iald dX4_firstDayAbove_29 rfl (by constructor <;> omega) (by decide) ?_
    refine aw_ald0 dX4_firstDayAbove_30 ?_
    refine aw_ild1 dX4_firstDayAbove_31 ?_
    refine aw_ild3 dX4_firstDayAbove_32 ?_
    refine aw_ild4 dX4_firstDayAbove_33 ?_
    refine aw_V3v dX4_firstDayAbove_35 (c_counterOf (by omega) (by first | assumption | omega | (constructor <;> omega) | exact hG _ _)) rfl rfl hbY_X4_counterOf hbm_X4_139 hbi_X4_counterOf hbe_X4_X4_counterOf (Nat.le_of_ble_eq_true rfl) ⟨by decide, by decide⟩ (by decide) (by decide) ?_
    refine aw_isub dX4_firstDayAbove_38 ?_
    refine aw_ipu6 dX4_firstDayAbove_39 (by decide) ?_
    refine aw_ild6 dX4_firstDayAbove_41 ?_
    refine aw_if_ge (tg := 49) dX4_firstDayAbove_43 (by decide) (by first | exact hG _ _ | (constructor <;> omega)) (fun c43 => ?_) (fun c43 => ?_)
    · skip
      refine aw_ild5 dX4_firstDayAbove_49 ?_
      refine aw_if_ne (tg := 59) dX4_firstDayAbove_51 (by decide) (by first | exact hG _ _ | (constructor <;> omega)) (fun c51 => ?_) (fun c51 => ?_)
      · skip
        refine aw_ild4 dX4_firstDayAbove_59 ?_
        refine aw_ild6 dX4_firstDayAbove_61 ?_
        refine aw_ild5 dX4_firstDayAbove_63 ?_
        refine aw_idiv dX4_firstDayAbove_65 (by constructor <;> omega) (by constructor <;> omega) (by omega) (by omega) ?_
        refine aw_iadd dX4_firstDayAbove_66 ?_
        refine aw_iconst dX4_firstDayAbove_67 ?_
        refine aw_iadd dX4_firstDayAbove_68 ?_
        exact aw_iret dX4_firstDayAbove_69 rfl (by unfold hb_fa; first | rw [if_pos (by assumption)] | rw [if_neg (by assumption), if_pos (by omega)] | rw [if_neg (by assumption), if_neg (by omega), if_pos (by assumption)] | rw [if_neg (by assumption), if_neg (by omega), if_neg (by assumption)]) rfl rfl (by decide) (by decide)
      · skip
        refine aw_ldc (z := 40001) dX4_firstDayAbove_54 hbk_X4_192 ?_
        refine aw_goto (tg := 69) dX4_firstDayAbove_56 (by decide) ?_
        exact aw_iret dX4_firstDayAbove_69 rfl (by unfold hb_fa; first | rw [if_pos (by assumption)] | rw [if_neg (by assumption), if_pos (by omega)] | rw [if_neg (by assumption), if_neg (by omega), if_pos (by assumption)] | rw [if_neg (by assumption), if_neg (by omega), if_neg (by assumption)]) rfl rfl (by decide) (by decide)
    · skip
      refine aw_ild4 dX4_firstDayAbove_46 ?_
      exact aw_iret dX4_firstDayAbove_48 rfl (by unfold hb_fa; first | rw [if_pos (by assumption)] | rw [if_neg (by assumption), if_pos (by omega)] | rw [if_neg (by assumption), if_neg (by omega), if_pos (by assumption)] | rw [if_neg (by assumption), if_neg (by omega), if_neg (by assumption)]) rfl rfl (by decide) (by decide)
  · skip
    refine aw_ldc (z := 40001) dX4_firstDayAbove_14 hbk_X4_192 ?_
    exact aw_iret dX4_firstDayAbove_16 rfl (by unfold hb_fa; first | rw [if_pos (by assumption)] | rw [if_neg (by assumption), if_pos (by omega)] | rw [if_neg (by assumption), if_neg (by omega), if_pos (by assumption)] | rw [if_neg (by assumption), if_neg (by omega), if_neg (by assumption)]) rfl rfl (by decide) (by decide)
set_option maxRecDepth 20000 in
set_option maxHeartbeats 1000000 in
theorem c_firstOverdueDay {l : Launch} {G : hb_G} {F : hb_F} {na : Nat} {t k day m c : Int} (ht : 0 ≤ t ∧ t < 40) (hk : 0 ≤ k ∧ k < 16) (hd : 0 ≤ day ∧ day ≤ 30000) (hm : 0 ≤ m ∧ m ≤ 1440) (hc : 0 ≤ c ∧ c ≤ 1440) (hbn : hb_bn G) (hG : hb_rg G) : hb_M l yX4_firstOverdueDay cX4_firstOverdueDay 7 (some .int) 2 0 0 [hb_r 32, hb_i t, hb_i k, hb_i day, hb_i m, hb_i c] (hb_w G F na) (77 + na) (.inl (some (hb_i (hb_fo G t k day m c)))) (hb_w G F na) (77 + na) := by
  refine hb_M_in rfl rfl (by decide) rfl (Nat.le_of_ble_eq_true rfl) ?_
  intro E z0 σ0
  have q1 := hbn.1 (t * 16 + k) (by omega) 41 (by omega)
  have q2 := hbn.1 (t * 16 + k) (by omega) 42 (by omega)
  have q3 := hbn.1 (t * 16 + k) (by omega) 43 (by omega)
  obtain ⟨q4, q5, q6⟩ := hbn.2 t ht
  have q7 : -1000000000 ≤ day - G 11 t ∧ day - G 11 t ≤ 1000000000 := by omega
  have f1 := hb_fa_in (iv := G 15 k) q1 q4 hd hm
  have f2 := hb_fa_in (iv := G 16 k) q2 q5 hd hc
  have f3 := hb_fa_in (iv := G 17 k) (pace := 1) q3 q7 hd (by omega)
  refine aw_ald0 dX4_firstOverdueDay_0 ?_
  refine aw_ild1 dX4_firstOverdueDay_1 ?_
  refine aw_ild2 dX4_firstOverdueDay_2 ?_
  refine aw_iconst dX4_firstOverdueDay_3 ?_
  refine aw_ild3 dX4_firstOverdueDay_4 ?_
  refine aw_ild4 dX4_firstOverdueDay_5 ?_
  refine aw_V5v dX4_firstOverdueDay_7 (c_firstDayAbove0 ht hk hd hm q1 q4 hG) rfl rfl hbY_X4_firstDayAbove hbm_X4_184 hbi_X4_firstDayAbove hbe_X4_X4_firstDayAbove (Nat.le_of_ble_eq_true rfl) ⟨by decide, by decide⟩ (by decide) (by decide) ?_
  refine aw_ipu6 dX4_firstOverdueDay_10 (by decide) ?_
  refine aw_ild6 dX4_firstOverdueDay_12 ?_
  refine aw_ald0 dX4_firstOverdueDay_14 ?_
  refine aw_ild1 dX4_firstOverdueDay_15 ?_
  refine aw_ild2 dX4_firstOverdueDay_16 ?_
  refine aw_iconst dX4_firstOverdueDay_17 ?_
  refine aw_ild3 dX4_firstOverdueDay_18 ?_
  refine aw_ild5 dX4_firstOverdueDay_19 ?_
  refine aw_V5v dX4_firstOverdueDay_21 (c_firstDayAbove1 ht hk hd hc q2 q5 hG) rfl rfl hbY_X4_firstDayAbove hbm_X4_184 hbi_X4_firstDayAbove hbe_X4_X4_firstDayAbove (Nat.le_of_ble_eq_true rfl) ⟨by decide, by decide⟩ (by decide) (by decide) ?_
  refine aw_min dX4_firstOverdueDay_24 hbm_X4_187 hbs_Lib_Math_min_name hbY_Lib_Math_min_name.2.1 hbY_Lib_Math_min_name.1 (show hb_in (hb_fa (G 15 k) (G 41 (t * 16 + k)) (G 38 t) day m) by constructor <;> omega) (show hb_in (hb_fa (G 16 k) (G 42 (t * 16 + k)) (G 39 t) day c) by constructor <;> omega) (by decide) (Nat.le_of_ble_eq_true rfl) (by decide) (by decide) ?_
  refine aw_ist6 dX4_firstOverdueDay_27 (by decide) ?_
  refine aw_ild6 dX4_firstOverdueDay_29 ?_
  refine aw_ald0 dX4_firstOverdueDay_31 ?_
  refine aw_ild1 dX4_firstOverdueDay_32 ?_
  refine aw_ild2 dX4_firstOverdueDay_33 ?_
  refine aw_iconst dX4_firstOverdueDay_34 ?_
  refine aw_ild3 dX4_firstOverdueDay_35 ?_
  refine aw_iconst dX4_firstOverdueDay_36 ?_
  refine aw_V5v dX4_firstOverdueDay_37 (c_firstDayAbove2 ht hk hd (by omega) q3 q7 hG) rfl rfl hbY_X4_firstDayAbove hbm_X4_184 hbi_X4_firstDayAbove hbe_X4_X4_firstDayAbove (Nat.le_of_ble_eq_true rfl) ⟨by decide, by decide⟩ (by decide) (by decide) ?_
  refine aw_min dX4_firstOverdueDay_40 hbm_X4_187 hbs_Lib_Math_min_name hbY_Lib_Math_min_name.2.1 hbY_Lib_Math_min_name.1 (show hb_in (min (hb_fa (G 15 k) (G 41 (t * 16 + k)) (G 38 t) day m) (hb_fa (G 16 k) (G 42 (t * 16 + k)) (G 39 t) day c)) by constructor <;> omega) (show hb_in (hb_fa (G 17 k) (G 43 (t * 16 + k)) (day - G 11 t) day 1) by constructor <;> omega) (by decide) (Nat.le_of_ble_eq_true rfl) (by decide) (by decide) ?_
  exact aw_iret dX4_firstOverdueDay_43 rfl (by rfl) rfl rfl (by decide) (by decide)
theorem hb_fo_in {G : hb_G} {t k day m c : Int} (ht : 0 ≤ t ∧ t < 40) (hk : 0 ≤ k ∧ k < 16) (hd : 0 ≤ day ∧ day ≤ 30000) (hm : 0 ≤ m ∧ m ≤ 1440) (hc : 0 ≤ c ∧ c ≤ 1440) (hbn : hb_bn G) : 0 ≤ hb_fo G t k day m c ∧ hb_fo G t k day m c ≤ 2000100000 := by
  have q1 := hbn.1 (t * 16 + k) (by omega) 41 (by omega)
  have q2 := hbn.1 (t * 16 + k) (by omega) 42 (by omega)
  have q3 := hbn.1 (t * 16 + k) (by omega) 43 (by omega)
  obtain ⟨q4, q5, q6⟩ := hbn.2 t ht
  have q7 : -1000000000 ≤ day - G 11 t ∧ day - G 11 t ≤ 1000000000 := by omega
  have f1 := hb_fa_in (iv := G 15 k) q1 q4 hd hm
  have f2 := hb_fa_in (iv := G 16 k) q2 q5 hd hc
  have f3 := hb_fa_in (iv := G 17 k) (pace := 1) q3 q7 hd (by omega)
  unfold hb_fo
  omega
set_option maxRecDepth 20000 in
set_option maxHeartbeats 1000000 in
theorem c_isOverdue {l : Launch} {G : hb_G} {F : hb_F} {na : Nat} {t k day : Int} (ht : 0 ≤ t ∧ t < 40) (hk : 0 ≤ k ∧ k < 16) (hd : 0 ≤ day ∧ day ≤ 30000) (hbn : hb_bn G) (hG : hb_rg G) : hb_M l yX4_isOverdue cX4_isOverdue 4 (some .boolean) 3 0 0 [hb_r 32, hb_i t, hb_i k, hb_i day] (hb_w G F na) (77 + na) (.inl (some (hb_i (hb_b (hb_fo G t k day 0 0 = day))))) (hb_w G F na) (77 + na) := by
  refine hb_M_in rfl rfl (by decide) rfl (Nat.le_of_ble_eq_true rfl) ?_
  intro E z0 σ0
  have h8 := hb_fo_in ht hk hd (m := 0) (c := 0) (by omega) (by omega) hbn
  refine aw_ald0 dX4_isOverdue_0 ?_
  refine aw_ild1 dX4_isOverdue_1 ?_
  refine aw_ild2 dX4_isOverdue_2 ?_
  refine aw_ild3 dX4_isOverdue_3 ?_
  refine aw_iconst dX4_isOverdue_4 ?_
  refine aw_iconst dX4_isOverdue_5 ?_
  refine aw_V5v dX4_isOverdue_6 (c_firstOverdueDay ht hk hd (by omega) (by omega) hbn hG) rfl rfl hbY_X4_firstOverdueDay hbm_X4_174 hbi_X4_firstOverdueDay hbe_X4_X4_firstOverdueDay (Nat.le_of_ble_eq_true rfl) ⟨by decide, by decide⟩ (by decide) (by decide) ?_
  refine aw_ild3 dX4_isOverdue_9 ?_
  refine aw_icmp_ne (tg := 17) dX4_isOverdue_10 (by decide) (by constructor <;> omega) (by constructor <;> omega) (fun c10 => ?_) (fun c10 => ?_)
  · skip
    refine aw_iconst dX4_isOverdue_17 ?_
    exact aw_zret dX4_isOverdue_18 rfl (by first | omega | exact hb_b01 _) (by first | exact hb_oi1 (by omega) | exact hb_oi0 (by omega)) rfl rfl (by decide) (by decide)
  · skip
    refine aw_iconst dX4_isOverdue_13 ?_
    refine aw_goto (tg := 18) dX4_isOverdue_14 (by decide) ?_
    exact aw_zret dX4_isOverdue_18 rfl (by first | omega | exact hb_b01 _) (by first | exact hb_oi1 (by omega) | exact hb_oi0 (by omega)) rfl rfl (by decide) (by decide)
set_option maxRecDepth 20000 in
set_option maxHeartbeats 1000000 in
theorem c_isAskedAndOverdue {l : Launch} {G : hb_G} {F : hb_F} {na : Nat} {t k day : Int} (ht : 0 ≤ t ∧ t < 40) (hk : 0 ≤ k ∧ k < 16) (hd : 0 ≤ day ∧ day ≤ 30000) (hbn : hb_bn G) (hG : hb_rg G) : hb_M l yX4_isAskedAndOverdue cX4_isAskedAndOverdue 4 (some .boolean) 4 0 0 [hb_r 32, hb_i t, hb_i k, hb_i day] (hb_w G F na) (77 + na) (.inl (some (hb_i (hb_b (hb_ak G t k ∧ hb_fo G t k day 0 0 = day))))) (hb_w G F na) (77 + na) := by
  refine hb_M_in rfl rfl (by decide) rfl (Nat.le_of_ble_eq_true rfl) ?_
  intro E z0 σ0
  refine aw_ald0 dX4_isAskedAndOverdue_0 ?_
  refine aw_ild1 dX4_isAskedAndOverdue_1 ?_
  refine aw_ild2 dX4_isAskedAndOverdue_2 ?_
  refine aw_V2v dX4_isAskedAndOverdue_3 (c_isAsked (by first | assumption | omega | (constructor <;> omega) | exact hG _ _) (by first | assumption | omega | (constructor <;> omega) | exact hG _ _) hG) rfl rfl hbY_X4_isAsked hbm_X4_178 hbi_X4_isAsked hbe_X4_X4_isAsked (Nat.le_of_ble_eq_true rfl) ⟨by decide, by decide⟩ (by decide) (by decide) ?_
  refine aw_ifb_eq (tg := 23) dX4_isAskedAndOverdue_6 (by decide) (fun c6 => ?_) (fun c6 => ?_)
  · skip
    refine aw_iconst dX4_isAskedAndOverdue_23 ?_
    exact aw_zret dX4_isAskedAndOverdue_24 rfl (by first | omega | exact hb_b01 _) (by first | exact hb_oi1 ⟨by assumption, by assumption⟩ | exact hb_oi0 (fun h9 => absurd h9.1 (by assumption)) | exact hb_oi0 (fun h9 => absurd h9.2 (by assumption))) rfl rfl (by decide) (by decide)
  · skip
    refine aw_ald0 dX4_isAskedAndOverdue_9 ?_
    refine aw_ild1 dX4_isAskedAndOverdue_10 ?_
    refine aw_ild2 dX4_isAskedAndOverdue_11 ?_
    refine aw_ild3 dX4_isAskedAndOverdue_12 ?_
    refine aw_V3v dX4_isAskedAndOverdue_13 (c_isOverdue ht hk hd hbn hG) rfl rfl hbY_X4_isOverdue hbm_X4_181 hbi_X4_isOverdue hbe_X4_X4_isOverdue (Nat.le_of_ble_eq_true rfl) ⟨by decide, by decide⟩ (by decide) (by decide) ?_
    refine aw_ifb_eq (tg := 23) dX4_isAskedAndOverdue_16 (by decide) (fun c16 => ?_) (fun c16 => ?_)
    · skip
      refine aw_iconst dX4_isAskedAndOverdue_23 ?_
      exact aw_zret dX4_isAskedAndOverdue_24 rfl (by first | omega | exact hb_b01 _) (by first | exact hb_oi1 ⟨by assumption, by assumption⟩ | exact hb_oi0 (fun h9 => absurd h9.1 (by assumption)) | exact hb_oi0 (fun h9 => absurd h9.2 (by assumption))) rfl rfl (by decide) (by decide)
    · skip
      refine aw_iconst dX4_isAskedAndOverdue_19 ?_
      refine aw_goto (tg := 24) dX4_isAskedAndOverdue_20 (by decide) ?_
      exact aw_zret dX4_isAskedAndOverdue_24 rfl (by first | omega | exact hb_b01 _) (by first | exact hb_oi1 ⟨by assumption, by assumption⟩ | exact hb_oi0 (fun h9 => absurd h9.1 (by assumption)) | exact hb_oi0 (fun h9 => absurd h9.2 (by assumption))) rfl rfl (by decide) (by decide)
