/-! ===== the reference is made ===== -/
theorem zq_df_01 (ci : Nat) (i : Int) : zq_df ci i = 0 ∨ zq_df ci i = -1 := by unfold zq_df; split <;> simp
def zx_Tq (τ : zq_S) (L : List Int) : Prop := ∀ i, (∀ j ∈ L, i ≠ j) → zx_ty0 i (τ 0 i)
def zx_Zz (τ : zq_S) : Prop := ∀ a i : Int, a ≠ 0 → τ a i = 0
theorem zx_Tq_put {σ τ : zq_S} {j v : Int} {L : List Int} (e : τ = zq_up σ 0 j v) (hv : zx_ty0 j v) (h : zx_Tq σ (j :: L)) : zx_Tq τ L := by
  intro i hi
  by_cases hc : i = j
  · rw [hc, e, zq_up_same]; exact hv
  · rw [e, zq_up_ne (fun q => hc q.2)]
    refine h i (fun q hq => ?_)
    rcases List.mem_cons.mp hq with rfl | hq
    · exact hc
    · exact hi q hq
theorem zx_Zz_put {σ τ : zq_S} {j v : Int} (e : τ = zq_up σ 0 j v) (h : zx_Zz σ) : zx_Zz τ := fun a i ha => by rw [e, zq_up_ne (fun q => ha q.1)]; exact h a i ha
theorem zx_Tq_cell {σ τ : zq_S} {n : Int} {f : Int → Int} {L : List Int} (e : τ = zq_cell σ n f) (hn : n ≠ 0) (h : zx_Tq σ L) : zx_Tq τ L := by
  intro i hi
  rw [e, zq_cell_no (Ne.symm hn)]
  exact h i hi
theorem zx_Zz_cell {σ τ : zq_S} {n : Int} (e : τ = zq_cell σ n (fun _ => 0)) (h : zx_Zz σ) : zx_Zz τ := fun a i ha => by
  by_cases hc : a = n
  · rw [e, hc, zq_cell_at]
  · rw [e, zq_cell_no hc]; exact h a i ha
theorem zx_Tq_0 {σ : zq_S} (q0 : ∀ i, σ 0 i = zq_df 12 i) : zx_Tq σ [0, 1, 2, 4, 5, 6, 7, 8, 9, 10, 11, 12, 13, 19, 20, 21, 23, 24, 25, 28, 29, 31, 32, 33, 35, 38, 39, 40, 41, 45, 46, 47, 48, 49, 50, 51, 52, 53, 56, 57, 58, 60, 62, 63, 64] := by
  intro i hi
  rw [q0]
  by_cases j0 : i = 0
  · exact absurd j0 (hi 0 (by decide))
  by_cases j1 : i = 1
  · exact absurd j1 (hi 1 (by decide))
  by_cases j2 : i = 2
  · exact absurd j2 (hi 2 (by decide))
  by_cases j3 : i = 3
  · subst j3; exact (show 0 ≤ (0 : Int) ∧ (0 : Int) ≤ 20 by decide)
  by_cases j4 : i = 4
  · exact absurd j4 (hi 4 (by decide))
  by_cases j5 : i = 5
  · exact absurd j5 (hi 5 (by decide))
  by_cases j6 : i = 6
  · exact absurd j6 (hi 6 (by decide))
  by_cases j7 : i = 7
  · exact absurd j7 (hi 7 (by decide))
  by_cases j8 : i = 8
  · exact absurd j8 (hi 8 (by decide))
  by_cases j9 : i = 9
  · exact absurd j9 (hi 9 (by decide))
  by_cases j10 : i = 10
  · exact absurd j10 (hi 10 (by decide))
  by_cases j11 : i = 11
  · exact absurd j11 (hi 11 (by decide))
  by_cases j12 : i = 12
  · exact absurd j12 (hi 12 (by decide))
  by_cases j13 : i = 13
  · exact absurd j13 (hi 13 (by decide))
  by_cases j14 : i = 14
  · subst j14; exact (show 0 ≤ (0 : Int) ∧ (0 : Int) ≤ 80 by decide)
  by_cases j15 : i = 15
  · subst j15; exact (show 0 ≤ (0 : Int) ∧ (0 : Int) ≤ 80 by decide)
  by_cases j16 : i = 16
  · subst j16; exact (show 0 ≤ (0 : Int) ∧ (0 : Int) ≤ 80 by decide)
  by_cases j17 : i = 17
  · subst j17; exact (show -1 ≤ (0 : Int) ∧ (0 : Int) ≤ 255 by decide)
  by_cases j18 : i = 18
  · subst j18; exact (show zq_in 0 by decide)
  by_cases j19 : i = 19
  · exact absurd j19 (hi 19 (by decide))
  by_cases j20 : i = 20
  · exact absurd j20 (hi 20 (by decide))
  by_cases j21 : i = 21
  · exact absurd j21 (hi 21 (by decide))
  by_cases j22 : i = 22
  · subst j22; exact (show 0 ≤ (0 : Int) ∧ (0 : Int) ≤ 4 by decide)
  by_cases j23 : i = 23
  · exact absurd j23 (hi 23 (by decide))
  by_cases j24 : i = 24
  · exact absurd j24 (hi 24 (by decide))
  by_cases j25 : i = 25
  · exact absurd j25 (hi 25 (by decide))
  by_cases j26 : i = 26
  · subst j26; exact (show 0 ≤ (0 : Int) ∧ (0 : Int) ≤ 100 by decide)
  by_cases j27 : i = 27
  · subst j27; exact (show 0 ≤ (0 : Int) ∧ (0 : Int) ≤ 99 by decide)
  by_cases j28 : i = 28
  · exact absurd j28 (hi 28 (by decide))
  by_cases j29 : i = 29
  · exact absurd j29 (hi 29 (by decide))
  by_cases j30 : i = 30
  · subst j30; exact (show 0 ≤ (0 : Int) ∧ (0 : Int) ≤ 1 by decide)
  by_cases j31 : i = 31
  · exact absurd j31 (hi 31 (by decide))
  by_cases j32 : i = 32
  · exact absurd j32 (hi 32 (by decide))
  by_cases j33 : i = 33
  · exact absurd j33 (hi 33 (by decide))
  by_cases j34 : i = 34
  · subst j34; exact (show 0 ≤ (0 : Int) ∧ (0 : Int) ≤ 24 by decide)
  by_cases j35 : i = 35
  · exact absurd j35 (hi 35 (by decide))
  by_cases j36 : i = 36
  · subst j36; exact (show 0 ≤ (0 : Int) ∧ (0 : Int) ≤ 1 by decide)
  by_cases j37 : i = 37
  · subst j37; exact (show 0 ≤ (0 : Int) ∧ (0 : Int) ≤ 39 by decide)
  by_cases j38 : i = 38
  · exact absurd j38 (hi 38 (by decide))
  by_cases j39 : i = 39
  · exact absurd j39 (hi 39 (by decide))
  by_cases j40 : i = 40
  · exact absurd j40 (hi 40 (by decide))
  by_cases j41 : i = 41
  · exact absurd j41 (hi 41 (by decide))
  by_cases j42 : i = 42
  · subst j42; exact (show zq_in 0 by decide)
  by_cases j43 : i = 43
  · subst j43; exact (show 0 ≤ (0 : Int) ∧ (0 : Int) ≤ 40 by decide)
  by_cases j44 : i = 44
  · subst j44; exact (show 0 ≤ (0 : Int) ∧ (0 : Int) ≤ 20 by decide)
  by_cases j45 : i = 45
  · exact absurd j45 (hi 45 (by decide))
  by_cases j46 : i = 46
  · exact absurd j46 (hi 46 (by decide))
  by_cases j47 : i = 47
  · exact absurd j47 (hi 47 (by decide))
  by_cases j48 : i = 48
  · exact absurd j48 (hi 48 (by decide))
  by_cases j49 : i = 49
  · exact absurd j49 (hi 49 (by decide))
  by_cases j50 : i = 50
  · exact absurd j50 (hi 50 (by decide))
  by_cases j51 : i = 51
  · exact absurd j51 (hi 51 (by decide))
  by_cases j52 : i = 52
  · exact absurd j52 (hi 52 (by decide))
  by_cases j53 : i = 53
  · exact absurd j53 (hi 53 (by decide))
  by_cases j54 : i = 54
  · subst j54; exact (show 0 ≤ (0 : Int) ∧ (0 : Int) ≤ 80 by decide)
  by_cases j55 : i = 55
  · subst j55; exact (show 0 ≤ (0 : Int) ∧ (0 : Int) ≤ 1 by decide)
  by_cases j56 : i = 56
  · exact absurd j56 (hi 56 (by decide))
  by_cases j57 : i = 57
  · exact absurd j57 (hi 57 (by decide))
  by_cases j58 : i = 58
  · exact absurd j58 (hi 58 (by decide))
  by_cases j59 : i = 59
  · subst j59; exact (show 0 ≤ (0 : Int) ∧ (0 : Int) ≤ 44 by decide)
  by_cases j60 : i = 60
  · exact absurd j60 (hi 60 (by decide))
  by_cases j61 : i = 61
  · subst j61; exact (show zq_in 0 by decide)
  by_cases j62 : i = 62
  · exact absurd j62 (hi 62 (by decide))
  by_cases j63 : i = 63
  · exact absurd j63 (hi 63 (by decide))
  by_cases j64 : i = 64
  · exact absurd j64 (hi 64 (by decide))
  have h01 := zq_df_01 12 i
  unfold zx_ty0
  rw [if_neg j0, if_neg j1, if_neg j2, if_neg j3, if_neg j4, if_neg j5, if_neg j6, if_neg j7, if_neg j8, if_neg j9, if_neg j10, if_neg j11, if_neg j12, if_neg j13, if_neg j14, if_neg j15, if_neg j16, if_neg j17, if_neg j18, if_neg j19, if_neg j20, if_neg j21, if_neg j22, if_neg j23, if_neg j24, if_neg j25, if_neg j26, if_neg j27, if_neg j28, if_neg j29, if_neg j30, if_neg j31, if_neg j32, if_neg j33, if_neg j34, if_neg j35, if_neg j36, if_neg j37, if_neg j38, if_neg j39, if_neg j40, if_neg j41, if_neg j42, if_neg j43, if_neg j44, if_neg j45, if_neg j46, if_neg j47, if_neg j48, if_neg j49, if_neg j50, if_neg j51, if_neg j52, if_neg j53, if_neg j54, if_neg j55, if_neg j56, if_neg j57, if_neg j58, if_neg j59, if_neg j60, if_neg j61, if_neg j62, if_neg j63, if_neg j64]
  omega
theorem zx_T_of {τ : zq_S} (h0 : zx_Tq τ []) (hz : zx_Zz τ) : zx_T τ := by
  intro a i
  by_cases h : a = 0
  · subst h; exact h0 i (fun j hj => absurd hj (by simp))
  rw [hz a i h]
  unfold zx_ty
  rw [if_neg h]
  by_cases k1 : a = 1
  · rw [if_pos k1]; exact (show zq_in 0 by decide)
  rw [if_neg k1]
  by_cases k2 : a = 2
  · rw [if_pos k2]; exact (show 0 ≤ (0 : Int) ∧ (0 : Int) ≤ 5 by decide)
  rw [if_neg k2]
  by_cases k3 : a = 3
  · rw [if_pos k3]; exact (show 0 ≤ (0 : Int) ∧ (0 : Int) ≤ 2 by decide)
  rw [if_neg k3]
  by_cases k4 : a = 4
  · rw [if_pos k4]; exact (show 0 ≤ (0 : Int) ∧ (0 : Int) ≤ 4 by decide)
  rw [if_neg k4]
  by_cases k5 : a = 5
  · rw [if_pos k5]; exact (show 0 ≤ (0 : Int) ∧ (0 : Int) ≤ 3 by decide)
  rw [if_neg k5]
  by_cases k6 : a = 6
  · rw [if_pos k6]; exact (by simp; decide)
  rw [if_neg k6]
  by_cases k7 : a = 7
  · rw [if_pos k7]; exact (show 0 ≤ (0 : Int) ∧ (0 : Int) ≤ 1000 by decide)
  rw [if_neg k7]
  by_cases k8 : a = 8
  · rw [if_pos k8]; exact (show zq_in 0 by decide)
  rw [if_neg k8]
  by_cases k9 : a = 9
  · rw [if_pos k9]; exact (show zq_in 0 by decide)
  rw [if_neg k9]
  by_cases k10 : a = 10
  · rw [if_pos k10]; exact (show zq_in 0 by decide)
  rw [if_neg k10]
  by_cases k11 : a = 11
  · rw [if_pos k11]; exact (show 0 ≤ (0 : Int) ∧ (0 : Int) ≤ 3 by decide)
  rw [if_neg k11]
  by_cases k12 : a = 12
  · rw [if_pos k12]; exact (show 0 ≤ (0 : Int) ∧ (0 : Int) ≤ 3 by decide)
  rw [if_neg k12]
  by_cases k13 : a = 13
  · rw [if_pos k13]; exact (show 0 ≤ (0 : Int) ∧ (0 : Int) ≤ 3 by decide)
  rw [if_neg k13]
  by_cases k14 : a = 14
  · rw [if_pos k14]; exact (show 0 ≤ (0 : Int) ∧ (0 : Int) ≤ 4095 by decide)
  rw [if_neg k14]
  by_cases k15 : a = 15
  · rw [if_pos k15]; exact (by simp; decide)
  rw [if_neg k15]
  by_cases k16 : a = 16
  · rw [if_pos k16]; exact (by simp; decide)
  rw [if_neg k16]
  by_cases k17 : a = 17
  · rw [if_pos k17]; exact (by simp; decide)
  rw [if_neg k17]
  by_cases k18 : a = 18
  · rw [if_pos k18]; exact (show -4 ≤ (0 : Int) ∧ (0 : Int) ≤ 19 by decide)
  rw [if_neg k18]
  by_cases k19 : a = 19
  · rw [if_pos k19]; exact (show zq_in 0 by decide)
  rw [if_neg k19]
  by_cases k20 : a = 20
  · rw [if_pos k20]; exact (show zq_in 0 by decide)
  rw [if_neg k20]
  by_cases k21 : a = 21
  · rw [if_pos k21]; exact (show 0 ≤ (0 : Int) ∧ (0 : Int) ≤ 2 by decide)
  rw [if_neg k21]
  by_cases k22 : a = 22
  · rw [if_pos k22]; exact (show 0 ≤ (0 : Int) ∧ (0 : Int) ≤ 255 by decide)
  rw [if_neg k22]
  by_cases k23 : a = 23
  · rw [if_pos k23]; exact (show 0 ≤ (0 : Int) ∧ (0 : Int) ≤ 39 by decide)
  rw [if_neg k23]
  by_cases k24 : a = 24
  · rw [if_pos k24]; exact (show 0 ≤ (0 : Int) ∧ (0 : Int) ≤ 39 by decide)
  rw [if_neg k24]
  by_cases k25 : a = 25
  · rw [if_pos k25]; exact (show 0 ≤ (0 : Int) ∧ (0 : Int) ≤ 2 by decide)
  rw [if_neg k25]
  by_cases k26 : a = 26
  · rw [if_pos k26]; exact (show 0 ≤ (0 : Int) ∧ (0 : Int) ≤ 255 by decide)
  rw [if_neg k26]
  by_cases k27 : a = 27
  · rw [if_pos k27]; exact (show 0 ≤ (0 : Int) ∧ (0 : Int) ≤ 39 by decide)
  rw [if_neg k27]
  by_cases k28 : a = 28
  · rw [if_pos k28]; exact (show 0 ≤ (0 : Int) ∧ (0 : Int) ≤ 39 by decide)
  rw [if_neg k28]
  by_cases k29 : a = 29
  · rw [if_pos k29]; exact (show -1 ≤ (0 : Int) ∧ (0 : Int) ≤ 39 by decide)
  rw [if_neg k29]
  by_cases k30 : a = 30
  · rw [if_pos k30]; exact (show 0 ≤ (0 : Int) ∧ (0 : Int) ≤ 6 by decide)
  rw [if_neg k30]
  by_cases k31 : a = 31
  · rw [if_pos k31]; exact (show zq_in 0 by decide)
  rw [if_neg k31]
  by_cases k32 : a = 32
  · rw [if_pos k32]; exact (show -1 ≤ (0 : Int) ∧ (0 : Int) ≤ 19 by decide)
  rw [if_neg k32]
  by_cases k33 : a = 33
  · rw [if_pos k33]; exact (show 0 ≤ (0 : Int) ∧ (0 : Int) ≤ 4095 by decide)
  rw [if_neg k33]
  by_cases k34 : a = 34
  · rw [if_pos k34]; exact (show 0 ≤ (0 : Int) ∧ (0 : Int) ≤ 39 by decide)
  rw [if_neg k34]
  by_cases k35 : a = 35
  · rw [if_pos k35]; exact (show zq_in 0 by decide)
  rw [if_neg k35]
  by_cases k36 : a = 36
  · rw [if_pos k36]; exact (show 0 ≤ (0 : Int) ∧ (0 : Int) ≤ 3 by decide)
  rw [if_neg k36]
  by_cases k37 : a = 37
  · rw [if_pos k37]; exact (show zq_in 0 by decide)
  rw [if_neg k37]
  by_cases k38 : a = 38
  · rw [if_pos k38]; exact (show -1 ≤ (0 : Int) ∧ (0 : Int) ≤ 2 by decide)
  rw [if_neg k38]
  by_cases k39 : a = 39
  · rw [if_pos k39]; exact (show 0 ≤ (0 : Int) ∧ (0 : Int) ≤ 30 by decide)
  rw [if_neg k39]
  by_cases k40 : a = 40
  · rw [if_pos k40]; exact (show zq_in 0 by decide)
  rw [if_neg k40]
  exact (show zq_in 0 by decide)
