theorem kb_6 : (Int8.ofInt 6).toInt32 = (6 : Int32) := by decide +kernel
theorem kb_7 : (Int8.ofInt 7).toInt32 = (7 : Int32) := by decide +kernel
theorem kb_8 : (Int8.ofInt 8).toInt32 = (8 : Int32) := by decide +kernel
theorem kb_9 : (Int8.ofInt 9).toInt32 = (9 : Int32) := by decide +kernel
theorem kb_10 : (Int8.ofInt 10).toInt32 = (10 : Int32) := by decide +kernel
theorem kb_11 : (Int8.ofInt 11).toInt32 = (11 : Int32) := by decide +kernel
theorem kb_12 : (Int8.ofInt 12).toInt32 = (12 : Int32) := by decide +kernel
theorem kb_13 : (Int8.ofInt 13).toInt32 = (13 : Int32) := by decide +kernel
theorem kb_14 : (Int8.ofInt 14).toInt32 = (14 : Int32) := by decide +kernel
theorem kb_15 : (Int8.ofInt 15).toInt32 = (15 : Int32) := by decide +kernel
theorem kb_16 : (Int8.ofInt 16).toInt32 = (16 : Int32) := by decide +kernel
theorem kb_17 : (Int8.ofInt 17).toInt32 = (17 : Int32) := by decide +kernel
theorem kb_18 : (Int8.ofInt 18).toInt32 = (18 : Int32) := by decide +kernel
theorem kb_19 : (Int8.ofInt 19).toInt32 = (19 : Int32) := by decide +kernel
theorem kb_21 : (Int8.ofInt 21).toInt32 = (21 : Int32) := by decide +kernel
theorem kb_22 : (Int8.ofInt 22).toInt32 = (22 : Int32) := by decide +kernel
theorem kb_24 : (Int8.ofInt 24).toInt32 = (24 : Int32) := by decide +kernel
theorem kb_32 : (Int8.ofInt 32).toInt32 = (32 : Int32) := by decide +kernel
theorem kb_56 : (Int8.ofInt 56).toInt32 = (56 : Int32) := by decide +kernel
theorem kb_63 : (Int8.ofInt 63).toInt32 = (63 : Int32) := by decide +kernel
theorem kb_64 : (Int8.ofInt 64).toInt32 = (64 : Int32) := by decide +kernel
theorem kb_68 : (Int8.ofInt 68).toInt32 = (68 : Int32) := by decide +kernel
theorem kc_m1 : Int32.ofInt (-1) = ((-1) : Int32) := by decide +kernel
theorem kc_0 : Int32.ofInt 0 = (0 : Int32) := by decide +kernel
theorem kc_1 : Int32.ofInt 1 = (1 : Int32) := by decide +kernel
theorem kc_2 : Int32.ofInt 2 = (2 : Int32) := by decide +kernel
theorem kc_3 : Int32.ofInt 3 = (3 : Int32) := by decide +kernel
theorem kc_4 : Int32.ofInt 4 = (4 : Int32) := by decide +kernel
theorem kc_5 : Int32.ofInt 5 = (5 : Int32) := by decide +kernel
theorem ks_128 : (Int16.ofInt 128).toInt32 = (128 : Int32) := by decide +kernel
theorem ks_214 : (Int16.ofInt 214).toInt32 = (214 : Int32) := by decide +kernel
theorem ks_215 : (Int16.ofInt 215).toInt32 = (215 : Int32) := by decide +kernel
theorem ks_248 : (Int16.ofInt 248).toInt32 = (248 : Int32) := by decide +kernel
theorem ks_255 : (Int16.ofInt 255).toInt32 = (255 : Int32) := by decide +kernel
theorem ks_256 : (Int16.ofInt 256).toInt32 = (256 : Int32) := by decide +kernel
theorem ks_1020 : (Int16.ofInt 1020).toInt32 = (1020 : Int32) := by decide +kernel
theorem ks_1023 : (Int16.ofInt 1023).toInt32 = (1023 : Int32) := by decide +kernel
theorem ks_1024 : (Int16.ofInt 1024).toInt32 = (1024 : Int32) := by decide +kernel
theorem ks_5000 : (Int16.ofInt 5000).toInt32 = (5000 : Int32) := by decide +kernel
theorem tk_0 : (0 : Int32).toNatClampNeg = 0 := by decide +kernel
theorem tk_1 : (1 : Int32).toNatClampNeg = 1 := by decide +kernel
theorem tk_2 : (2 : Int32).toNatClampNeg = 2 := by decide +kernel
theorem tk_3 : (3 : Int32).toNatClampNeg = 3 := by decide +kernel
theorem tk_6 : (6 : Int32).toNatClampNeg = 6 := by decide +kernel
theorem tk_7 : (7 : Int32).toNatClampNeg = 7 := by decide +kernel
theorem vi_0_4 : vp_in (0 : Int32) 4 := cb_in_v (by decide +kernel)
theorem vi_0_8 : vp_in (0 : Int32) 8 := cb_in_v (by decide +kernel)
theorem vi_1_4 : vp_in (1 : Int32) 4 := cb_in_v (by decide +kernel)
theorem vi_2_4 : vp_in (2 : Int32) 4 := cb_in_v (by decide +kernel)
theorem vi_3_4 : vp_in (3 : Int32) 4 := cb_in_v (by decide +kernel)
theorem vi_6_8 : vp_in (6 : Int32) 8 := cb_in_v (by decide +kernel)
theorem vi_7_8 : vp_in (7 : Int32) 8 := cb_in_v (by decide +kernel)
theorem vm_7 (x : Int32) : vp_in (x &&& (7 : Int32)) 8 := pk_andIn x 3 (by decide +kernel) (by decide)
theorem vm_1023 (x : Int32) : vp_in (x &&& (1023 : Int32)) 1024 := pk_andIn x 10 (by decide +kernel) (by decide)
theorem cb_no2_0 {p0 p1 : Prop} (q : ¬ (p0 ∨ p1)) : ¬ p0 := fun h => q (Or.inl h)
theorem cb_no2_1 {p0 p1 : Prop} (q : ¬ (p0 ∨ p1)) : ¬ p1 := fun h => q (Or.inr (h))
theorem cb_no4_0 {p0 p1 p2 p3 : Prop} (q : ¬ (p0 ∨ p1 ∨ p2 ∨ p3)) : ¬ p0 := fun h => q (Or.inl h)
theorem cb_no4_1 {p0 p1 p2 p3 : Prop} (q : ¬ (p0 ∨ p1 ∨ p2 ∨ p3)) : ¬ p1 := fun h => q (Or.inr (Or.inl h))
theorem cb_no4_2 {p0 p1 p2 p3 : Prop} (q : ¬ (p0 ∨ p1 ∨ p2 ∨ p3)) : ¬ p2 := fun h => q (Or.inr (Or.inr (Or.inl h)))
theorem cb_no4_3 {p0 p1 p2 p3 : Prop} (q : ¬ (p0 ∨ p1 ∨ p2 ∨ p3)) : ¬ p3 := fun h => q (Or.inr (Or.inr (Or.inr (h))))
theorem cb_no8_0 {p0 p1 p2 p3 p4 p5 p6 p7 : Prop} (q : ¬ (p0 ∨ p1 ∨ p2 ∨ p3 ∨ p4 ∨ p5 ∨ p6 ∨ p7)) : ¬ p0 := fun h => q (Or.inl h)
theorem cb_no8_1 {p0 p1 p2 p3 p4 p5 p6 p7 : Prop} (q : ¬ (p0 ∨ p1 ∨ p2 ∨ p3 ∨ p4 ∨ p5 ∨ p6 ∨ p7)) : ¬ p1 := fun h => q (Or.inr (Or.inl h))
theorem cb_no8_2 {p0 p1 p2 p3 p4 p5 p6 p7 : Prop} (q : ¬ (p0 ∨ p1 ∨ p2 ∨ p3 ∨ p4 ∨ p5 ∨ p6 ∨ p7)) : ¬ p2 := fun h => q (Or.inr (Or.inr (Or.inl h)))
theorem cb_no8_3 {p0 p1 p2 p3 p4 p5 p6 p7 : Prop} (q : ¬ (p0 ∨ p1 ∨ p2 ∨ p3 ∨ p4 ∨ p5 ∨ p6 ∨ p7)) : ¬ p3 := fun h => q (Or.inr (Or.inr (Or.inr (Or.inl h))))
theorem cb_no8_4 {p0 p1 p2 p3 p4 p5 p6 p7 : Prop} (q : ¬ (p0 ∨ p1 ∨ p2 ∨ p3 ∨ p4 ∨ p5 ∨ p6 ∨ p7)) : ¬ p4 := fun h => q (Or.inr (Or.inr (Or.inr (Or.inr (Or.inl h)))))
theorem cb_no8_5 {p0 p1 p2 p3 p4 p5 p6 p7 : Prop} (q : ¬ (p0 ∨ p1 ∨ p2 ∨ p3 ∨ p4 ∨ p5 ∨ p6 ∨ p7)) : ¬ p5 := fun h => q (Or.inr (Or.inr (Or.inr (Or.inr (Or.inr (Or.inl h))))))
theorem cb_no8_6 {p0 p1 p2 p3 p4 p5 p6 p7 : Prop} (q : ¬ (p0 ∨ p1 ∨ p2 ∨ p3 ∨ p4 ∨ p5 ∨ p6 ∨ p7)) : ¬ p6 := fun h => q (Or.inr (Or.inr (Or.inr (Or.inr (Or.inr (Or.inr (Or.inl h)))))))
theorem cb_no8_7 {p0 p1 p2 p3 p4 p5 p6 p7 : Prop} (q : ¬ (p0 ∨ p1 ∨ p2 ∨ p3 ∨ p4 ∨ p5 ∨ p6 ∨ p7)) : ¬ p7 := fun h => q (Or.inr (Or.inr (Or.inr (Or.inr (Or.inr (Or.inr (Or.inr (h))))))))
theorem kb_66 : (Int8.ofInt 66).toInt32 = (66 : Int32) := by decide +kernel
theorem kb_71 : (Int8.ofInt 71).toInt32 = (71 : Int32) := by decide +kernel
theorem kb_77 : (Int8.ofInt 77).toInt32 = (77 : Int32) := by decide +kernel
theorem kb_86 : (Int8.ofInt 86).toInt32 = (86 : Int32) := by decide +kernel
theorem kb_94 : (Int8.ofInt 94).toInt32 = (94 : Int32) := by decide +kernel
theorem kb_118 : (Int8.ofInt 118).toInt32 = (118 : Int32) := by decide +kernel
theorem kb_127 : (Int8.ofInt 127).toInt32 = (127 : Int32) := by decide +kernel
theorem ks_160 : (Int16.ofInt 160).toInt32 = (160 : Int32) := by decide +kernel
theorem ks_176 : (Int16.ofInt 176).toInt32 = (176 : Int32) := by decide +kernel
theorem ks_192 : (Int16.ofInt 192).toInt32 = (192 : Int32) := by decide +kernel
theorem ks_199 : (Int16.ofInt 199).toInt32 = (199 : Int32) := by decide +kernel
theorem ks_251 : (Int16.ofInt 251).toInt32 = (251 : Int32) := by decide +kernel
theorem tk_4 : (4 : Int32).toNatClampNeg = 4 := by decide +kernel
theorem tk_5 : (5 : Int32).toNatClampNeg = 5 := by decide +kernel
theorem vi_0_3 : vp_in (0 : Int32) 3 := cb_in_v (by decide +kernel)
theorem vi_0_16 : vp_in (0 : Int32) 16 := cb_in_v (by decide +kernel)
theorem vi_1_2 : vp_in (1 : Int32) 2 := cb_in_v (by decide +kernel)
theorem vi_1_3 : vp_in (1 : Int32) 3 := cb_in_v (by decide +kernel)
theorem vi_1_16 : vp_in (1 : Int32) 16 := cb_in_v (by decide +kernel)
theorem vi_2_3 : vp_in (2 : Int32) 3 := cb_in_v (by decide +kernel)
theorem vi_2_16 : vp_in (2 : Int32) 16 := cb_in_v (by decide +kernel)
theorem vi_3_16 : vp_in (3 : Int32) 16 := cb_in_v (by decide +kernel)
theorem vi_4_16 : vp_in (4 : Int32) 16 := cb_in_v (by decide +kernel)
theorem vi_5_16 : vp_in (5 : Int32) 16 := cb_in_v (by decide +kernel)
theorem vi_6_16 : vp_in (6 : Int32) 16 := cb_in_v (by decide +kernel)
theorem vi_7_16 : vp_in (7 : Int32) 16 := cb_in_v (by decide +kernel)
