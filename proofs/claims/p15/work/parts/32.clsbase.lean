/-! ===== the JDK's methods; links that are wanting; frames of one Sum; copies; what sum and make rest on ===== -/
abbrev cJ6_bitCount_0f7a4 : ByteArray := prog_15_method_49_code
abbrev yJ6_bitCount_0f7a4 : MethodName := ⟨"java/lang/Integer", "bitCount", "(I)I"⟩
abbrev cJ7_fill_53178 : ByteArray := prog_18_method_103_code
abbrev yJ7_fill_53178 : MethodName := ⟨"java/util/Arrays", "fill", "([II)V"⟩
theorem dJ6_bitCount_0f7a4_0 : decode cJ6_bitCount_0f7a4 0 = .ok (.iload_n 0, 1) := by decide +kernel
theorem dJ6_bitCount_0f7a4_1 : decode cJ6_bitCount_0f7a4 1 = .ok (.iload_n 0, 1) := by decide +kernel
theorem dJ6_bitCount_0f7a4_2 : decode cJ6_bitCount_0f7a4 2 = .ok (.iconst 1, 1) := by decide +kernel
theorem dJ6_bitCount_0f7a4_3 : decode cJ6_bitCount_0f7a4 3 = .ok (.iushr, 1) := by decide +kernel
theorem dJ6_bitCount_0f7a4_4 : decode cJ6_bitCount_0f7a4 4 = .ok (.ldc_w 265, 3) := by decide +kernel
theorem dJ6_bitCount_0f7a4_7 : decode cJ6_bitCount_0f7a4 7 = .ok (.iand, 1) := by decide +kernel
theorem dJ6_bitCount_0f7a4_8 : decode cJ6_bitCount_0f7a4 8 = .ok (.isub, 1) := by decide +kernel
theorem dJ6_bitCount_0f7a4_9 : decode cJ6_bitCount_0f7a4 9 = .ok (.istore_n 0, 1) := by decide +kernel
theorem dJ6_bitCount_0f7a4_10 : decode cJ6_bitCount_0f7a4 10 = .ok (.iload_n 0, 1) := by decide +kernel
theorem dJ6_bitCount_0f7a4_11 : decode cJ6_bitCount_0f7a4 11 = .ok (.ldc_w 266, 3) := by decide +kernel
theorem dJ6_bitCount_0f7a4_14 : decode cJ6_bitCount_0f7a4 14 = .ok (.iand, 1) := by decide +kernel
theorem dJ6_bitCount_0f7a4_15 : decode cJ6_bitCount_0f7a4 15 = .ok (.iload_n 0, 1) := by decide +kernel
theorem dJ6_bitCount_0f7a4_16 : decode cJ6_bitCount_0f7a4 16 = .ok (.iconst 2, 1) := by decide +kernel
theorem dJ6_bitCount_0f7a4_17 : decode cJ6_bitCount_0f7a4 17 = .ok (.iushr, 1) := by decide +kernel
theorem dJ6_bitCount_0f7a4_18 : decode cJ6_bitCount_0f7a4 18 = .ok (.ldc_w 266, 3) := by decide +kernel
theorem dJ6_bitCount_0f7a4_21 : decode cJ6_bitCount_0f7a4 21 = .ok (.iand, 1) := by decide +kernel
theorem dJ6_bitCount_0f7a4_22 : decode cJ6_bitCount_0f7a4 22 = .ok (.iadd, 1) := by decide +kernel
theorem dJ6_bitCount_0f7a4_23 : decode cJ6_bitCount_0f7a4 23 = .ok (.istore_n 0, 1) := by decide +kernel
theorem dJ6_bitCount_0f7a4_24 : decode cJ6_bitCount_0f7a4 24 = .ok (.iload_n 0, 1) := by decide +kernel
theorem dJ6_bitCount_0f7a4_25 : decode cJ6_bitCount_0f7a4 25 = .ok (.iload_n 0, 1) := by decide +kernel
theorem dJ6_bitCount_0f7a4_26 : decode cJ6_bitCount_0f7a4 26 = .ok (.iconst 4, 1) := by decide +kernel
theorem dJ6_bitCount_0f7a4_27 : decode cJ6_bitCount_0f7a4 27 = .ok (.iushr, 1) := by decide +kernel
theorem dJ6_bitCount_0f7a4_28 : decode cJ6_bitCount_0f7a4 28 = .ok (.iadd, 1) := by decide +kernel
theorem dJ6_bitCount_0f7a4_29 : decode cJ6_bitCount_0f7a4 29 = .ok (.ldc_w 267, 3) := by decide +kernel
theorem dJ6_bitCount_0f7a4_32 : decode cJ6_bitCount_0f7a4 32 = .ok (.iand, 1) := by decide +kernel
theorem dJ6_bitCount_0f7a4_33 : decode cJ6_bitCount_0f7a4 33 = .ok (.istore_n 0, 1) := by decide +kernel
theorem dJ6_bitCount_0f7a4_34 : decode cJ6_bitCount_0f7a4 34 = .ok (.iload_n 0, 1) := by decide +kernel
theorem dJ6_bitCount_0f7a4_35 : decode cJ6_bitCount_0f7a4 35 = .ok (.iload_n 0, 1) := by decide +kernel
theorem dJ6_bitCount_0f7a4_36 : decode cJ6_bitCount_0f7a4 36 = .ok (.bipush 8, 2) := by decide +kernel
theorem dJ6_bitCount_0f7a4_38 : decode cJ6_bitCount_0f7a4 38 = .ok (.iushr, 1) := by decide +kernel
theorem dJ6_bitCount_0f7a4_39 : decode cJ6_bitCount_0f7a4 39 = .ok (.iadd, 1) := by decide +kernel
theorem dJ6_bitCount_0f7a4_40 : decode cJ6_bitCount_0f7a4 40 = .ok (.istore_n 0, 1) := by decide +kernel
theorem dJ6_bitCount_0f7a4_41 : decode cJ6_bitCount_0f7a4 41 = .ok (.iload_n 0, 1) := by decide +kernel
theorem dJ6_bitCount_0f7a4_42 : decode cJ6_bitCount_0f7a4 42 = .ok (.iload_n 0, 1) := by decide +kernel
theorem dJ6_bitCount_0f7a4_43 : decode cJ6_bitCount_0f7a4 43 = .ok (.bipush 16, 2) := by decide +kernel
theorem dJ6_bitCount_0f7a4_45 : decode cJ6_bitCount_0f7a4 45 = .ok (.iushr, 1) := by decide +kernel
theorem dJ6_bitCount_0f7a4_46 : decode cJ6_bitCount_0f7a4 46 = .ok (.iadd, 1) := by decide +kernel
theorem dJ6_bitCount_0f7a4_47 : decode cJ6_bitCount_0f7a4 47 = .ok (.istore_n 0, 1) := by decide +kernel
theorem dJ6_bitCount_0f7a4_48 : decode cJ6_bitCount_0f7a4 48 = .ok (.iload_n 0, 1) := by decide +kernel
theorem dJ6_bitCount_0f7a4_49 : decode cJ6_bitCount_0f7a4 49 = .ok (.bipush 63, 2) := by decide +kernel
theorem dJ6_bitCount_0f7a4_51 : decode cJ6_bitCount_0f7a4 51 = .ok (.iand, 1) := by decide +kernel
theorem dJ6_bitCount_0f7a4_52 : decode cJ6_bitCount_0f7a4 52 = .ok (.ireturn, 1) := by decide +kernel
theorem dJ7_fill_53178_0 : decode cJ7_fill_53178 0 = .ok (.iconst 0, 1) := by decide +kernel
theorem dJ7_fill_53178_1 : decode cJ7_fill_53178 1 = .ok (.istore_n 2, 1) := by decide +kernel
theorem dJ7_fill_53178_2 : decode cJ7_fill_53178 2 = .ok (.aload_n 0, 1) := by decide +kernel
theorem dJ7_fill_53178_3 : decode cJ7_fill_53178 3 = .ok (.arraylength, 1) := by decide +kernel
theorem dJ7_fill_53178_4 : decode cJ7_fill_53178 4 = .ok (.istore_n 3, 1) := by decide +kernel
theorem dJ7_fill_53178_5 : decode cJ7_fill_53178 5 = .ok (.iload_n 2, 1) := by decide +kernel
theorem dJ7_fill_53178_6 : decode cJ7_fill_53178 6 = .ok (.iload_n 3, 1) := by decide +kernel
theorem dJ7_fill_53178_7 : decode cJ7_fill_53178 7 = .ok (.if_icmp .ge 13, 3) := by decide +kernel
theorem dJ7_fill_53178_10 : decode cJ7_fill_53178 10 = .ok (.aload_n 0, 1) := by decide +kernel
theorem dJ7_fill_53178_11 : decode cJ7_fill_53178 11 = .ok (.iload_n 2, 1) := by decide +kernel
theorem dJ7_fill_53178_12 : decode cJ7_fill_53178 12 = .ok (.iload_n 1, 1) := by decide +kernel
theorem dJ7_fill_53178_13 : decode cJ7_fill_53178 13 = .ok (.iastore, 1) := by decide +kernel
theorem dJ7_fill_53178_14 : decode cJ7_fill_53178 14 = .ok (.iinc 2 1, 3) := by decide +kernel
theorem dJ7_fill_53178_17 : decode cJ7_fill_53178 17 = .ok (.goto (-12), 3) := by decide +kernel
theorem dJ7_fill_53178_20 : decode cJ7_fill_53178 20 = .ok (.return_, 1) := by decide +kernel
theorem kXJ_265 : Cond.constant "java/lang/Integer" 265 1431655765 ∈ zq_tb := (zq_tbI (zq_tk3 (List.mem_of_getElem? (i := 96) rfl)) rfl)
theorem kXJ_266 : Cond.constant "java/lang/Integer" 266 858993459 ∈ zq_tb := (zq_tbI (zq_tk3 (List.mem_of_getElem? (i := 97) rfl)) rfl)
theorem kXJ_267 : Cond.constant "java/lang/Integer" 267 252645135 ∈ zq_tb := (zq_tbI (zq_tk3 (List.mem_of_getElem? (i := 98) rfl)) rfl)
theorem lX2_80 : Cond.methodLink RX2 80 arraycopyName ∈ zq_tb := (zq_tbI (zq_tk4 (List.mem_of_getElem? (i := 116) rfl)) rfl)
theorem lX1_152 : Cond.methodLink RX1 152 arraycopyName ∈ zq_tb := (zq_tbI (zq_tk5 (List.mem_of_getElem? (i := 170) rfl)) rfl)
theorem lX10_42 : Cond.methodLink RX10 42 arraycopyName ∈ zq_tb := (zq_tbI (zq_tk6 (List.mem_of_getElem? (i := 32) rfl)) rfl)
theorem lX11_294 : Cond.methodLink RX11 294 arraycopyName ∈ zq_tb := (zq_tbI (zq_tk6 (List.mem_of_getElem? (i := 50) rfl)) rfl)
theorem lcp_nat : Cond.native arraycopyName ∈ zq_tb := (zq_tbI (zq_tk4 (List.mem_of_getElem? (i := 118) rfl)) rfl)
theorem lcp_stat : Cond.static arraycopyName ∈ zq_tb := (zq_tbI (zq_tk4 (List.mem_of_getElem? (i := 117) rfl)) rfl)
theorem lcp_ini : Cond.initialized "java/lang/System" ∈ zq_tb := (zq_tbI (zq_tk1 (List.mem_of_getElem? (i := 17) rfl)) rfl)
theorem lX9_146 : Cond.methodLink RX9 146 Lib.Math.max.name ∈ zq_tb := (zq_tbI (zq_tk5 (List.mem_of_getElem? (i := 213) rfl)) rfl)
theorem lmmax_stat : Cond.static Lib.Math.max.name ∈ zq_tb := (zq_tbI (zq_tk5 (List.mem_of_getElem? (i := 214) rfl)) rfl)
theorem lmmax_code : Cond.code Lib.Math.max.name Lib.Math.max.code 2 (some .int) ∈ zq_tb := (zq_tbI (zq_tk5 (List.mem_of_getElem? (i := 215) rfl)) rfl)
theorem lX8_36 : Cond.methodLink RX8 36 Lib.Math.min.name ∈ zq_tb := (zq_tbI (zq_tk3 (List.mem_of_getElem? (i := 145) rfl)) rfl)
theorem lX9_75 : Cond.methodLink RX9 75 Lib.Math.min.name ∈ zq_tb := (zq_tbI (zq_tk3 (List.mem_of_getElem? (i := 177) rfl)) rfl)
theorem lX6_124 : Cond.methodLink RX6 124 Lib.Math.min.name ∈ zq_tb := (zq_tbI (zq_tk4 (List.mem_of_getElem? (i := 219) rfl)) rfl)
theorem lX1_134 : Cond.methodLink RX1 134 Lib.Math.min.name ∈ zq_tb := (zq_tbI (zq_tk5 (List.mem_of_getElem? (i := 137) rfl)) rfl)
theorem lmmin_stat : Cond.static Lib.Math.min.name ∈ zq_tb := (zq_tbI (zq_tk3 (List.mem_of_getElem? (i := 146) rfl)) rfl)
theorem lmmin_code : Cond.code Lib.Math.min.name Lib.Math.min.code 2 (some .int) ∈ zq_tb := (zq_tbI (zq_tk3 (List.mem_of_getElem? (i := 147) rfl)) rfl)
theorem lmath_ini : Cond.initialized "java/lang/Math" ∈ zq_tb := (zq_tbI (zq_tk1 (List.mem_of_getElem? (i := 16) rfl)) rfl)
section ZQMath
variable {w : zq_W} {own : String} {cc : ByteArray} {nL fr lo n0 n1 : Nat} {nm : String} {rt : Option FieldType} {Po : Option zq_Z → zq_S → Prop} {V : Nat → List (Option zq_Z) → List zq_Z → Nat → zq_S → Prop} {pc n : Nat} {ls : List (Option zq_Z)} {st : List zq_Z} {σ : zq_S}
theorem zr_max (hV : zq_R w own cc nL fr lo n0 n1 nm rt Po V) {x y : Int} {idx : Nat} (d : decode cc pc = .ok (.invokestatic idx, 3)) (hlink : Cond.methodLink own idx Lib.Math.max.name ∈ zq_tb) (hx0 : zq_in x) (hy0 : zq_in y) (hst : st.length ≤ 4) (hfr : Nat.ble 1 fr = true) (hlo : Nat.ble 21 lo = true) (k : ∀ r, (r = x ∨ r = y) → x ≤ r ∧ y ≤ r → V (pc + 3) ls (ZI r :: st) n σ) : V pc ls (ZI y :: ZI x :: st) n σ := by
  obtain ⟨p, l, e, s, m, args, below, meth, c, D, cA, b, hx, hb, hml, hown, hts, hK, hbs, hal, hrt, hlk, hnm, hXw, rfl⟩ := hV
  intro H locs lsA hnn hP hS hz hl
  have hfr := Nat.le_of_ble_eq_true hfr
  have hlo := Nat.le_of_ble_eq_true hlo
  have h8 := zq_room (b := b) hst
  have hm1 := zq_so_le w hnn.1
  have hm2 := zq_so_le w hnn.2
  have hloc : (((st.map (zq_val b)).map fun v => v.category).sum) + 13 ≤ lo := by omega
  refine va_mmax hx hb (by rw [hml]; exact hl.1.symm) hown (hts _ hlink) (hts _ lmmax_stat) (hts _ lmath_ini) (hts _ lmmax_code) hfr hloc (by show n - n0 ≤ n1 - n0; omega) (by show zq_so w n - zq_so w n0 ≤ zq_so w n1 - zq_so w n0; omega) (x := Int32.ofInt x) (y := Int32.ofInt y) d ?_
  by_cases h : x < y
  · rw [if_pos ((zq_ltI hx0 hy0).mpr h)]
    exact k y (Or.inr rfl) (by omega) H locs lsA hnn hP hS hz hl
  · rw [if_neg (fun q => h ((zq_ltI hx0 hy0).mp q))]
    exact k x (Or.inl rfl) (by omega) H locs lsA hnn hP hS hz hl
theorem zr_min (hV : zq_R w own cc nL fr lo n0 n1 nm rt Po V) {x y : Int} {idx : Nat} (d : decode cc pc = .ok (.invokestatic idx, 3)) (hlink : Cond.methodLink own idx Lib.Math.min.name ∈ zq_tb) (hx0 : zq_in x) (hy0 : zq_in y) (hst : st.length ≤ 4) (hfr : Nat.ble 1 fr = true) (hlo : Nat.ble 21 lo = true) (k : ∀ r, (r = x ∨ r = y) → r ≤ x ∧ r ≤ y → V (pc + 3) ls (ZI r :: st) n σ) : V pc ls (ZI y :: ZI x :: st) n σ := by
  obtain ⟨p, l, e, s, m, args, below, meth, c, D, cA, b, hx, hb, hml, hown, hts, hK, hbs, hal, hrt, hlk, hnm, hXw, rfl⟩ := hV
  intro H locs lsA hnn hP hS hz hl
  have hfr := Nat.le_of_ble_eq_true hfr
  have hlo := Nat.le_of_ble_eq_true hlo
  have h8 := zq_room (b := b) hst
  have hm1 := zq_so_le w hnn.1
  have hm2 := zq_so_le w hnn.2
  have hloc : (((st.map (zq_val b)).map fun v => v.category).sum) + 13 ≤ lo := by omega
  refine va_mmin hx hb (by rw [hml]; exact hl.1.symm) hown (hts _ hlink) (hts _ lmmin_stat) (hts _ lmath_ini) (hts _ lmmin_code) hfr hloc (by show n - n0 ≤ n1 - n0; omega) (by show zq_so w n - zq_so w n0 ≤ zq_so w n1 - zq_so w n0; omega) (x := Int32.ofInt x) (y := Int32.ofInt y) d ?_
  by_cases h : y < x
  · rw [if_pos ((zq_ltI hy0 hx0).mpr h)]
    exact k y (Or.inr rfl) (by omega) H locs lsA hnn hP hS hz hl
  · rw [if_neg (fun q => h ((zq_ltI hy0 hx0).mp q))]
    exact k x (Or.inl rfl) (by omega) H locs lsA hnn hP hS hz hl
end ZQMath
theorem mX3_102_2 : zq_MU RX3 102 2 ⟨RX0, "wordOf", "(I)I"⟩ yX2_wordOf cX2_wordOf 3 (some .int) 1 := zq_MU_of TX2 6 (zq_tbI (zq_tk4 (List.mem_of_getElem? (i := 76) rfl)) rfl) (zq_tbI (zq_tk4 (List.mem_of_getElem? (i := 78) rfl)) rfl) (zq_tbI (zq_tk4 (List.mem_of_getElem? (i := 79) rfl)) rfl) (zq_tbI (zq_tk4 (List.mem_of_getElem? (i := 80) rfl)) rfl) (zq_tbI (zq_tk1 (List.mem_of_getElem? (i := 7) rfl)) rfl) (zq_tbI (zq_tk4 (List.mem_of_getElem? (i := 81) rfl)) rfl) (by decide +kernel) rfl ⟨by decide, by decide, by decide +kernel⟩
theorem mX3_102_10 : zq_MU RX3 102 10 ⟨RX0, "wordOf", "(I)I"⟩ yX10_wordOf cX10_wordOf 2 (some .int) 1 := zq_MU_of TX10 9 (zq_tbI (zq_tk4 (List.mem_of_getElem? (i := 76) rfl)) rfl) (zq_tbI (zq_tk4 (List.mem_of_getElem? (i := 78) rfl)) rfl) (zq_tbI (zq_tk4 (List.mem_of_getElem? (i := 93) rfl)) rfl) (zq_tbI (zq_tk4 (List.mem_of_getElem? (i := 94) rfl)) rfl) (zq_tbI (zq_tk1 (List.mem_of_getElem? (i := 9) rfl)) rfl) (zq_tbI (zq_tk4 (List.mem_of_getElem? (i := 95) rfl)) rfl) (by decide +kernel) rfl ⟨by decide, by decide, by decide +kernel⟩
theorem mX3_114_2 : zq_MU RX3 114 2 ⟨RX0, "become", "(II)V"⟩ yX2_become cX2_become 4 (none) 2 := zq_MU_of TX2 6 (zq_tbI (zq_tk4 (List.mem_of_getElem? (i := 103) rfl)) rfl) (zq_tbI (zq_tk4 (List.mem_of_getElem? (i := 105) rfl)) rfl) (zq_tbI (zq_tk4 (List.mem_of_getElem? (i := 106) rfl)) rfl) (zq_tbI (zq_tk4 (List.mem_of_getElem? (i := 107) rfl)) rfl) (zq_tbI (zq_tk1 (List.mem_of_getElem? (i := 7) rfl)) rfl) (zq_tbI (zq_tk4 (List.mem_of_getElem? (i := 108) rfl)) rfl) (by decide +kernel) rfl ⟨by decide, by decide, by decide +kernel⟩
theorem mX3_114_10 : zq_MU RX3 114 10 ⟨RX0, "become", "(II)V"⟩ yX10_become cX10_become 4 (none) 2 := zq_MU_of TX10 9 (zq_tbI (zq_tk4 (List.mem_of_getElem? (i := 103) rfl)) rfl) (zq_tbI (zq_tk4 (List.mem_of_getElem? (i := 105) rfl)) rfl) (zq_tbI (zq_tk4 (List.mem_of_getElem? (i := 109) rfl)) rfl) (zq_tbI (zq_tk4 (List.mem_of_getElem? (i := 110) rfl)) rfl) (zq_tbI (zq_tk1 (List.mem_of_getElem? (i := 9) rfl)) rfl) (zq_tbI (zq_tk4 (List.mem_of_getElem? (i := 111) rfl)) rfl) (by decide +kernel) rfl ⟨by decide, by decide, by decide +kernel⟩
def zc_Own (b : Int) (σ τ : zq_S) : Prop := ∀ a i, 256 ≤ zc_kd a → zc_kd a ≤ 263 → ¬ (b ≤ a ∧ a ≤ b + 7) → τ a i = σ a i
theorem zc_Own_rf (b : Int) (σ : zq_S) : zc_Own b σ σ := fun _ _ _ _ _ => rfl
theorem zc_Ow {b a i v : Int} {σ ρ τ : zq_S} (e : τ = zq_up ρ a i v) (h : b ≤ a ∧ a ≤ b + 7) (hO : zc_Own b σ ρ) : zc_Own b σ τ := fun x y h1 h2 h3 => by
  rw [e, zq_up_ne (fun q => h3 (by rw [q.1]; exact h))]
  exact hO x y h1 h2 h3
theorem zc_Oo {b : Int} {σ ρ τ : zq_S} (h : zc_Own b ρ τ) (hO : zc_Own b σ ρ) : zc_Own b σ τ := fun x y h1 h2 h3 => (h x y h1 h2 h3).trans (hO x y h1 h2 h3)
theorem zc_Oc {b : Int} {σ ρ τ : zq_S} {M : List (Nat × Int)} (hf : zc_Fr M ρ τ) (h : M.any (fun q => Nat.ble 256 q.1 && Nat.ble q.1 263) = false) (hO : zc_Own b σ ρ) : zc_Own b σ τ := fun x y h1 h2 h3 => by
  refine (hf x y ?_).trans (hO x y h1 h2 h3)
  unfold zc_out
  rw [List.any_eq_false] at h ⊢
  intro q hq hc
  refine h q hq ?_
  simp only [Bool.and_eq_true, beq_iff_eq] at hc ⊢
  rw [hc.1]
  exact ⟨Nat.ble_eq_true_of_le h1, Nat.ble_eq_true_of_le h2⟩
theorem zc_cell_ne {σ : zq_S} {a b i : Int} {f : Int → Int} (h : ¬ (a = b ∧ i = i)) : zq_cell σ b f a i = σ a i := by
  have : a ≠ b := fun q => h ⟨q, rfl⟩
  simp [zq_cell, this]
theorem zc_Tcell {σ τ : zq_S} {a : Int} {f : Int → Int} {k : Nat} (e : τ = zq_cell σ a f) (h : zc_T σ) (hk : zc_kd a = k) (hv : ∀ i, zc_tk k a i (f i)) : zc_T τ := by
  subst e
  intro x i
  by_cases hx : x = a
  · subst hx
    rw [hk]
    simp only [zq_cell, if_true]
    exact hv i
  · simp only [zq_cell, if_neg hx]
    exact h x i
theorem zc_Fcell {L : List (Nat × Int)} {σ ρ τ : zq_S} {a : Int} {f : Int → Int} {k : Nat} (e : τ = zq_cell ρ a f) (hk : zc_kd a = k) (h : L.any (fun r => r.1 == k && r.2 == -1) = true) (hF : zc_Fr L σ ρ) : zc_Fr L σ τ := fun x y ho => by
  have hx : x ≠ a := fun q => zc_out_wa (i := y) hk h ho ⟨q, rfl⟩
  rw [e]
  simp only [zq_cell, if_neg hx]
  exact hF x y ho
/-- the Sum that is told is not the spare one, and has a node if one was read -/
def zc_U (σ : zq_S) : Prop := σ 255 1 ≠ σ 255 2 ∧ (σ 255 3 = 1 → 1 ≤ σ (σ 255 1) 5)
theorem zc_U_fr {L : List (Nat × Int)} {σ τ : zq_S} (hf : zc_Fr L σ τ) (h : L.any (fun q => (q.1 == 255 && (q.2 == -1 || q.2 == 1 || q.2 == 2 || q.2 == 3)) || (q.1 == 256 && (q.2 == -1 || q.2 == 5))) = false) (hT : zc_T σ) (hU : zc_U σ) : zc_U τ := by
  have key : ∀ (a i : Int) (k : Nat), zc_kd a = k → ((k = 255 ∧ (i = 1 ∨ i = 2 ∨ i = 3)) ∨ (k = 256 ∧ i = 5)) → τ a i = σ a i := by
    intro a i k hk hc
    refine hf a i (zc_out_at hk ?_)
    rw [List.any_eq_false] at h ⊢
    intro q hq hq2
    refine h q hq ?_
    simp only [Bool.and_eq_true, Bool.or_eq_true, beq_iff_eq] at hq2 ⊢
    rcases hc with ⟨rfl, hi⟩ | ⟨rfl, hi⟩
    · refine Or.inl ⟨hq2.1, ?_⟩
      rcases hq2.2 with h2 | h2
      · exact Or.inl (Or.inl (Or.inl h2))
      · rcases hi with h3 | h3 | h3
        · exact Or.inl (Or.inl (Or.inr (h2.trans h3)))
        · exact Or.inl (Or.inr (h2.trans h3))
        · exact Or.inr (h2.trans h3)
    · refine Or.inr ⟨hq2.1, ?_⟩
      rcases hq2.2 with h2 | h2
      · exact Or.inl h2
      · exact Or.inr (h2.trans hi)
  have e1 := key 255 1 255 rfl (Or.inl ⟨rfl, Or.inl rfl⟩)
  have e2 := key 255 2 255 rfl (Or.inl ⟨rfl, Or.inr (Or.inl rfl)⟩)
  have e3 := key 255 3 255 rfl (Or.inl ⟨rfl, Or.inr (Or.inr rfl)⟩)
  have e4 := key (σ 255 1) 5 256 (zc_g255_1 hT rfl) (Or.inr ⟨rfl, rfl⟩)
  unfold zc_U
  rw [e1, e2, e3, e4]
  exact hU
theorem zc_k256v {a : Int} (h : zc_kd a = 256) : a = 256 ∨ a = 264 := by
  unfold zc_kd at h
  repeat' split at h
  all_goals omega
theorem zc_U_own {L : List (Nat × Int)} {σ τ : zq_S} (hT : zc_T σ) (hf : zc_Fr L σ τ) (h : L.any (fun q => q.1 == 255) = false) (ho : zc_Own (σ 255 2) σ τ) (hU : zc_U σ) : zc_U τ := by
  have e1 := hf 255 1 (zc_out_ar zc_s255 h)
  have e2 := hf 255 2 (zc_out_ar zc_s255 h)
  have e3 := hf 255 3 (zc_out_ar zc_s255 h)
  have k1 := zc_g255_1 hT zc_s255
  have k2 := zc_g255_2 hT zc_s255
  have v1 := zc_k256v k1
  have v2 := zc_k256v k2
  have hne := hU.1
  have e4 := ho (σ 255 1) 5 (by rw [k1]; decide) (by rw [k1]; decide) (by omega)
  unfold zc_U
  rw [e1, e2, e3, e4]
  exact hU
theorem zc_U_no {σ τ : zq_S} (e : τ = zq_up σ 255 3 0) (hU : σ 255 1 ≠ σ 255 2) : zc_U τ := by
  subst e
  refine ⟨?_, fun h => ?_⟩
  · rw [zq_up_ne (by omega), zq_up_ne (by omega)]
    exact hU
  · rw [zq_up_same] at h
    omega
theorem zc_U_swap {σ16 σ34 σ39 σ44 : zq_S} {o1 o31 : Int} (e34 : σ34 = zq_up σ16 255 2 o31) (e39 : σ39 = zq_up σ34 255 1 o1) (e44 : σ44 = zq_up σ39 255 3 1) (ko1 : zc_kd o1 = 256) (hne : o31 ≠ o1) (h5 : 1 ≤ σ16 o1 5) : zc_U σ44 := by
  have v1 := zc_k256v ko1
  have a1 : σ44 255 1 = o1 := by rw [e44, zq_up_ne (by omega), e39, zq_up_same]
  have a2 : σ44 255 2 = o31 := by rw [e44, zq_up_ne (by omega), e39, zq_up_ne (by omega), e34, zq_up_same]
  have a3 : σ44 o1 5 = σ16 o1 5 := by rw [e44, zq_up_ne (by omega), e39, zq_up_ne (by omega), e34, zq_up_ne (by omega)]
  refine ⟨by omega, fun _ => ?_⟩
  rw [a1, a3]
  exact h5
/-- the Sum that is told has a node -/
def zc_N (σ : zq_S) : Prop := 1 ≤ σ (σ 255 1) 5
theorem zc_N_fr {L : List (Nat × Int)} {σ τ : zq_S} (hf : zc_Fr L σ τ) (h : L.any (fun q => (q.1 == 255 && (q.2 == -1 || q.2 == 1)) || (q.1 == 256 && (q.2 == -1 || q.2 == 5))) = false) (hT : zc_T σ) (hN : zc_N σ) : zc_N τ := by
  have e1 : τ 255 1 = σ 255 1 := by
    refine hf 255 1 (zc_out_at zc_s255 ?_)
    rw [List.any_eq_false] at h ⊢
    intro q hq hq2
    refine h q hq ?_
    simp only [Bool.and_eq_true, Bool.or_eq_true, beq_iff_eq] at hq2 ⊢
    exact Or.inl ⟨hq2.1, hq2.2⟩
  have e2 : τ (σ 255 1) 5 = σ (σ 255 1) 5 := by
    refine hf _ 5 (zc_out_at (zc_g255_1 hT zc_s255) ?_)
    rw [List.any_eq_false] at h ⊢
    intro q hq hq2
    refine h q hq ?_
    simp only [Bool.and_eq_true, Bool.or_eq_true, beq_iff_eq] at hq2 ⊢
    exact Or.inr ⟨hq2.1, hq2.2⟩
  unfold zc_N
  rw [e1, e2]
  exact hN
theorem c_fill {σ : zq_S} (hσ : zc_T σ) (a v : Int) {k len : Nat} (hk : zc_kd a = k) (hl : zc_ki k = .inl (0, len)) (hk2 : (Nat.ble k 283 && Nat.ble len 40000) = true) (hv : zq_in v) (hty : ∀ i, zc_tk k a i v) : zq_C zc_w yJ7_fill_53178 cJ7_fill_53178 4 (none) 0 0 284 284 [ZR a, ZI v] σ (zq_pv (fun τ => zc_T τ ∧ zc_Fr [(k, -1)] σ τ ∧ (∀ i : Int, 0 ≤ i → i < len → τ a i = v) ∧ (∀ b i, b ≠ a → τ b i = σ b i))) := by
  refine zq_C_of (by decide) (Nat.le_refl _) (Nat.le_of_ble_eq_true rfl) [some (ZR a), some (ZI v), none, none] rfl (fun V hV => ?_)
  have hk2 := Bool.and_eq_true_iff.mp hk2
  have hle := Nat.le_of_ble_eq_true hk2.2
  have hpos := zc_pos hk hk2.1
  have hkk : zc_w.2 (zc_w.1 a) = .inl (0, len) := (congrArg zc_ki hk).trans hl
  have hFσ := zc_Fr_rf [(k, -1)] σ
  have hany : [(k, (-1 : Int))].any (fun r => r.1 == k && r.2 == -1) = true := by simp
  refine zr_iconst (pc := 0) hV 0 dJ7_fill_53178_0 rfl ?_
  refine zr_istore_n (pc := 1) hV [some (ZR a), some (ZI v), some (ZI 0), none] dJ7_fill_53178_1 rfl (by decide) rfl rfl ?_
  refine zr_aload_n (pc := 2) hV dJ7_fill_53178_2 rfl rfl ?_
  refine zr_alen (pc := 3) hV dJ7_fill_53178_3 hkk hpos ?_
  refine zr_istore_n (pc := 4) hV [some (ZR a), some (ZI v), some (ZI 0), some (ZI (len : Int))] dJ7_fill_53178_4 rfl (by decide) rfl rfl ?_
  have L5 : ∀ (fuel : Nat) (x : Int) (ρ : zq_S), 0 ≤ x ∧ x ≤ len → zc_T ρ → zc_Fr [(k, -1)] σ ρ → (∀ i, 0 ≤ i → i < x → ρ a i = v) → (∀ b i, b ≠ a → ρ b i = σ b i) → (len : Int) - x < (fuel : Int) → V 5 [some (ZR a), some (ZI v), some (ZI x), some (ZI (len : Int))] [] 284 ρ := by
    intro fuel
    induction fuel with
    | zero => intro x ρ hx _ _ _ _ hm; exfalso; omega
    | succ fuel ih =>
      intro x ρ hx hT hF h1 h2 hm
      refine zr_iload_n (pc := 5) hV dJ7_fill_53178_5 rfl rfl ?_
      refine zr_iload_n (pc := 6) hV dJ7_fill_53178_6 rfl rfl ?_
      refine zr_icmp_ge (pc := 7) hV 20 dJ7_fill_53178_7 (by decide) (by omega) (by omega) (fun c => ?_) (fun c => ?_)
      · exact zr_vret (pc := 20) hV dJ7_fill_53178_20 rfl rfl ⟨rfl, hT, hF, fun i g1 g2 => h1 i g1 (by omega), h2⟩
      · refine zr_aload_n (pc := 10) hV dJ7_fill_53178_10 rfl rfl ?_
        refine zr_iload_n (pc := 11) hV dJ7_fill_53178_11 rfl rfl ?_
        refine zr_iload_n (pc := 12) hV dJ7_fill_53178_12 rfl rfl ?_
        refine zr_iast (pc := 13) hV dJ7_fill_53178_13 hkk hpos (Nat.ble_eq_true_of_le hle) (by omega) (fun τ e => ?_)
        refine zr_iinc (pc := 14) hV [some (ZR a), some (ZI v), some (ZI (x + 1)), some (ZI (len : Int))] (x + 1) dJ7_fill_53178_14 rfl rfl (by decide) rfl rfl ?_
        refine zr_goto (pc := 17) hV 5 dJ7_fill_53178_17 (by decide) ?_
        refine ih (x + 1) τ (by omega) (zc_up e hT hk (hty x)) (zc_Fa e hk hany hF) (fun i g1 g2 => ?_) (fun b i hb => ?_) (by omega)
        · by_cases hi : i = x
          · rw [hi, e]; exact zq_up_same _ _ _ _
          · rw [e, zq_up_ne (fun q => hi q.2)]; exact h1 i g1 (by omega)
        · rw [e, zq_up_ne (fun q => hb q.1)]; exact h2 b i hb
  exact L5 (len + 1) 0 σ (by omega) hσ hFσ (fun i g1 g2 => absurd g2 (by omega)) (fun _ _ _ => rfl) (by omega)

