/-! ===== a step of the stepper: what the class's methods leave ===== -/
def zs_bt (σ : zq_S) (b : Int) : Int := σ 139 (σ b 4)
def zs_oa (σ : zq_S) (b : Int) : Int := σ 10 (σ 11 (zs_bt σ b))
/-- there is an ORDER at P -/
def zs_can (σ : zq_S) (b : Int) : Prop := 0 ≤ σ 11 (zs_bt σ b) ∧ σ 11 (zs_bt σ b) < σ 3 3
/-- WAITS: L the TICKS just ahead, A its TARGETS -/
def zs_wt (L A : Int) (S : Nat → Prop) (w : Int) : Prop := (1 < L ∧ (∃ i : Nat, i < 10 ∧ zw_tb A i ∧ S i) ∧ w = L - 1) ∨ (¬ (1 < L ∧ ∃ i : Nat, i < 10 ∧ zw_tb A i ∧ S i) ∧ w = 0)
def zs_ct (σ τ : zq_S) (F : Int → Int) (a p q : Int) : Prop := (∃ w, zs_wt (σ 140 13) (σ 140 14) (zw_ls F (σ a 12)) w ∧ τ 140 9 = zs_w (σ 140 9 + (σ a 11 + w + (if σ 254 p = q then 0 else σ 140 12))) ∧ τ 140 10 = zs_w (σ 140 10 + w)) ∧ τ 140 8 = zs_w (σ 140 8 + 1) ∧ τ 140 11 = zs_w (σ 140 11 + (if σ 254 p = q then 0 else 1)) ∧ τ 140 13 = σ a 11 ∧ (0 ≤ τ 140 14 ∧ τ 140 14 ≤ 1023 ∧ ∀ i : Nat, zw_tb (τ 140 14) i ↔ zw_ls F (σ a 13) i) ∧ ∀ i, τ 254 i = if i = p then q else σ 254 i
def zs_na (σ τ : zq_S) (row p : Int) : Prop := τ row 0 = σ 141 4 ∧ τ row 1 = σ 141 3 ∧ τ row 2 = σ 254 p ∧ τ row 3 = σ 140 9 ∧ τ row 4 = σ 140 10 ∧ τ row 5 = σ 140 11 ∧ ∀ a i, a ≠ row → τ a i = σ a i
def zs_nc (σ τ : zq_S) (row : Int) : Prop := τ row 6 = σ 141 6 ∧ (∀ j, 0 ≤ j → j < σ 141 6 → τ row (7 + 2 * j) = σ 145 j ∧ τ row (8 + 2 * j) = σ 146 j) ∧ (∀ i, i ≤ 5 → τ row i = σ row i) ∧ (∀ a i, a ≠ row → a ≠ 140 → τ a i = σ a i)
def zs_pf (σ τ : zq_S) (a x : Int) : Prop := zw_cs τ 141 = zw_do (τ 144) (σ 141 0) (zw_ra σ a) 0 (σ a 4) (σ a 5) (σ a 6) (zw_up (zw_cs σ 141) 265 ((σ 141 4 + 1) % 64)) ∧ zw_ok (τ 144) (zw_cs τ 141) (σ 141 0) ∧ (∀ i, i < 264 → zw_un (τ 145) (τ 146) (τ 141 6) (zw_cs τ 141) i = zw_cs σ 141 i) ∧ (∀ j, 0 ≤ j → j < τ 141 6 → 0 ≤ τ 145 j ∧ τ 145 j < 264) ∧ (∀ f, 0 ≤ f → f ≤ 3 → τ 144 f = zu_cv σ a x f)
/-- the new row of the past -/
def zs_nw (σ τ : zq_S) (row : Int) : Prop := (τ row 0 = σ 141 4 ∧ τ row 1 = σ 141 3 ∧ τ row 2 = σ 254 (σ 141 4) ∧ τ row 3 = σ 140 9 ∧ τ row 4 = σ 140 10 ∧ τ row 5 = σ 140 11) ∧ (∀ i, i < 264 → zw_un (fun j => τ row (7 + 2 * j)) (fun j => τ row (8 + 2 * j)) (τ row 6) (zw_cs τ 141) i = zw_cs σ 141 i) ∧ (∀ j, 0 ≤ j → j < τ row 6 → 0 ≤ τ row (7 + 2 * j) ∧ τ row (7 + 2 * j) < 264)
def zs_sc (σ τ : zq_S) (a x : Int) : Prop := (zw_cs τ 141 = zw_do (τ 144) (σ 141 0) (zw_ra σ a) 0 (σ a 4) (σ a 5) (σ a 6) (zw_up (zw_cs σ 141) 265 ((σ 141 4 + 1) % 64)) ∧ zw_ok (τ 144) (zw_cs τ 141) (σ 141 0) ∧ (∀ f, 0 ≤ f → f ≤ 3 → τ 144 f = zu_cv σ a x f)) ∧ zs_ct σ τ (τ 144) a (σ 141 4) (τ 141 4) ∧ (τ 140 6 = (σ 140 6 + 1) % 100 ∧ τ 140 5 = (if σ 140 5 < 100 then σ 140 5 + 1 else 100)) ∧ (∀ r i, 0 ≤ r → r < 100 → r ≠ σ 140 6 → τ (154 + r) i = σ (154 + r) i) ∧ zs_nw σ τ (154 + σ 140 6)
theorem zs_cv_fr {σ τ : zq_S} {a x f : Int} (h : ∀ i, τ (a + 1) i = σ (a + 1) i) : zu_cv τ a x f = zu_cv σ a x f := by
  unfold zu_cv
  rw [h]
theorem zs_sc_mk {σ s1 s2 s3 τ : zq_S} {row a x : Int} (kr : zc_kd row = 154) (ka : zc_kd a = 4) (er : row = 154 + σ 140 6) (h06 : 0 ≤ σ 140 6 ∧ σ 140 6 ≤ 99) (f1 : zc_Fr [(154, -1)] σ s1) (n1 : zs_na σ s1 row (σ 141 4)) (f2 : zc_Fr [(141, 3), (141, 4), (141, 6), (142, -1), (143, -1), (144, -1), (145, -1), (146, -1)] s1 s2) (n2 : zs_pf s1 s2 a x) (f3 : zc_Fr [(140, 5), (140, 6), (154, -1)] s2 s3) (n3 : zs_nc s2 s3 row) (p3 : s3 140 6 = (s2 140 6 + 1) % 100 ∧ s3 140 5 = (if s2 140 5 < 100 then s2 140 5 + 1 else 100)) (f4 : zc_Fr [(140, 8), (140, 9), (140, 10), (140, 11), (140, 13), (140, 14), (254, -1)] s3 τ) (n4 : zs_ct s3 τ (s3 144) a (σ 141 4) (s3 141 4)) : zs_sc σ τ a x := by
  obtain ⟨a0, a1, a2, a3, a4, a5, a6⟩ := n1
  obtain ⟨b1, b2, b3, b4, b5⟩ := n2
  obtain ⟨c1, c2, c3, c4⟩ := n3
  have k140 : ∀ i, s1 140 i = σ 140 i := fun i => f1 140 i (zc_out_ar zc_s140 rfl)
  have k140b : ∀ i, s2 140 i = σ 140 i := fun i => (f2 140 i (zc_out_ar zc_s140 rfl)).trans (k140 i)
  have k141 : ∀ i, s1 141 i = σ 141 i := fun i => f1 141 i (zc_out_ar zc_s141 rfl)
  have ecs1 : zw_cs s1 141 = zw_cs σ 141 := zw_cs_c (fun i => f1 142 i (zc_out_ar zc_s142 rfl)) (fun i => f1 143 i (zc_out_ar zc_s143 rfl)) (k141 3) (k141 4)
  have e3 : ∀ i, s3 141 i = s2 141 i := fun i => f3 141 i (zc_out_ar zc_s141 rfl)
  have e4 : ∀ i, τ 141 i = s3 141 i := fun i => f4 141 i (zc_out_ar zc_s141 rfl)
  have ecs3 : zw_cs s3 141 = zw_cs s2 141 := zw_cs_c (fun i => f3 142 i (zc_out_ar zc_s142 rfl)) (fun i => f3 143 i (zc_out_ar zc_s143 rfl)) (e3 3) (e3 4)
  have ecs4 : zw_cs τ 141 = zw_cs s3 141 := zw_cs_c (fun i => f4 142 i (zc_out_ar zc_s142 rfl)) (fun i => f4 143 i (zc_out_ar zc_s143 rfl)) (e4 3) (e4 4)
  have F3 : s3 144 = s2 144 := funext (fun i => f3 144 i (zc_out_ar zc_s144 rfl))
  have F4 : τ 144 = s3 144 := funext (fun i => f4 144 i (zc_out_ar zc_s144 rfl))
  have o1 : ∀ i, s1 a i = σ a i := fun i => f1 a i (zc_out_ar ka rfl)
  have o3 : ∀ i, s3 a i = σ a i := fun i => ((f3 a i (zc_out_ar ka rfl)).trans (f2 a i (zc_out_ar ka rfl))).trans (o1 i)
  have ora : zw_ra s1 a = zw_ra σ a := zw_ra_fr (fun k i k2 k5 => by
    have hk : k = 2 ∨ k = 3 ∨ k = 4 ∨ k = 5 := by omega
    rcases hk with rfl | rfl | rfl | rfl
    · exact f1 _ i (zc_out_ar (zc_p4_2 ka) rfl)
    · exact f1 _ i (zc_out_ar (zc_p4_3 ka) rfl)
    · exact f1 _ i (zc_out_ar (zc_p4_4 ka) rfl)
    · exact f1 _ i (zc_out_ar (zc_p4_5 ka) rfl))
  have k254 : ∀ i, s3 254 i = σ 254 i := fun i => ((f3 254 i (zc_out_ar zc_s254 rfl)).trans (f2 254 i (zc_out_ar zc_s254 rfl))).trans (f1 254 i (zc_out_ar zc_s254 rfl))
  have k3_8 : s3 140 8 = σ 140 8 := (f3 140 8 (zc_out_at zc_s140 rfl)).trans (k140b 8)
  have k3_9 : s3 140 9 = σ 140 9 := (f3 140 9 (zc_out_at zc_s140 rfl)).trans (k140b 9)
  have k3_10 : s3 140 10 = σ 140 10 := (f3 140 10 (zc_out_at zc_s140 rfl)).trans (k140b 10)
  have k3_11 : s3 140 11 = σ 140 11 := (f3 140 11 (zc_out_at zc_s140 rfl)).trans (k140b 11)
  have k3_12 : s3 140 12 = σ 140 12 := (f3 140 12 (zc_out_at zc_s140 rfl)).trans (k140b 12)
  have k3_13 : s3 140 13 = σ 140 13 := (f3 140 13 (zc_out_at zc_s140 rfl)).trans (k140b 13)
  have k3_14 : s3 140 14 = σ 140 14 := (f3 140 14 (zc_out_at zc_s140 rfl)).trans (k140b 14)
  have kp : ∀ i, s2 row i = s1 row i := fun i => f2 row i (zc_out_ar kr rfl)
  have k4 : ∀ i, τ row i = s3 row i := fun i => f4 row i (zc_out_ar kr rfl)
  refine ⟨⟨?_, ?_, fun f f0 f3 => ?_⟩, ?_, ⟨?_, ?_⟩, fun r i r0 r1 rn => ?_, ⟨⟨?_, ?_, ?_, ?_, ?_, ?_⟩, fun i hi => ?_, fun j j0 j1 => ?_⟩⟩
  · rw [ecs4, ecs3, b1, F4, F3, ora, o1, o1, o1, k141, k141, ecs1]
  · rw [ecs4, ecs3, F4, F3, ← k141]; exact b2
  · rw [F4, F3, b5 f f0 f3]; exact zs_cv_fr (fun i => f1 _ i (zc_out_ar (zc_p4_1 ka) rfl))
  · obtain ⟨⟨w, d1, d2, d3⟩, d4, d5, d6, d7, d8⟩ := n4
    rw [k3_13, k3_14, o3] at d1
    rw [k3_9, o3, k254, k3_12] at d2
    rw [k3_10] at d3
    rw [k3_8] at d4
    rw [k3_11, k254] at d5
    rw [o3] at d6 d7
    unfold zs_ct
    rw [F4, e4 4]
    exact ⟨⟨w, d1, d2, d3⟩, d4, d5, d6, d7, fun i => by rw [d8 i, k254]⟩
  · rw [f4 140 6 (zc_out_at zc_s140 rfl), p3.1, k140b]
  · rw [f4 140 5 (zc_out_at zc_s140 rfl), p3.2, k140b]
  · have ke := zc_e154 r0 r1
    rw [f4 _ i (zc_out_ar ke rfl), c4 _ i (by omega) (by omega), f2 _ i (zc_out_ar ke rfl), a6 _ i (by omega)]
  · rw [← er, k4, c3 0 (by decide), kp, a0]
  · rw [← er, k4, c3 1 (by decide), kp, a1]
  · rw [← er, k4, c3 2 (by decide), kp, a2]
  · rw [← er, k4, c3 3 (by decide), kp, a3]
  · rw [← er, k4, c3 4 (by decide), kp, a4]
  · rw [← er, k4, c3 5 (by decide), kp, a5]
  · rw [← er, ecs4, ecs3, k4 6, c1, ← ecs1, ← b3 i hi]
    exact zw_un_c (fun j j0 j1 => ⟨(k4 _).trans (c2 j j0 j1).1, (k4 _).trans (c2 j j0 j1).2⟩) rfl
  · rw [← er] at j1 ⊢
    rw [k4 6, c1] at j1
    rw [k4, (c2 j j0 j1).1]
    exact b4 j j0 j1
/-- what a step wants: CODE in bounds, its ORDERS well told -/
def zs_og (σ : zq_S) (a x m : Int) : Prop := zw_oo σ a ∧ ((∀ f, 0 ≤ f → f ≤ 2 → 0 ≤ zu_cv σ a x f ∧ zu_cv σ a x f ≤ 7) ∧ 0 ≤ zu_cv σ a x 3 ∧ zu_cv σ a x 3 ≤ m) ∧ (0 ≤ σ a 12 ∧ σ a 12 ≤ 127) ∧ (0 ≤ σ a 13 ∧ σ a 13 ≤ 127)
def zs_pc (σ : zq_S) (m : Int) : Prop := ∀ p, 0 ≤ p → p ≤ 63 → (0 ≤ σ 139 p ∧ σ 139 p ≤ 4095) ∧ (0 ≤ σ 11 (σ 139 p) ∧ σ 11 (σ 139 p) < σ 3 3 → zs_og σ (σ 10 (σ 11 (σ 139 p))) (σ 139 p) m)
def zs_ps (σ : zq_S) : Prop := zs_pc σ (σ 141 0) ∧ zw_ok (fun _ => 0) (zw_cs σ 141) (σ 141 0) ∧ 0 ≤ σ 140 14 ∧ σ 140 14 ≤ 1023
theorem zs_pc_fr {σ τ : zq_S} {m : Int} (hσ : zc_T σ) (h3 : τ 3 3 = σ 3 3) (h10 : ∀ i, τ 10 i = σ 10 i) (h11 : ∀ i, τ 11 i = σ 11 i) (h139 : ∀ i, τ 139 i = σ 139 i) (h4 : ∀ a i, zc_kd a = 4 → τ a i = σ a i) (hA : ∀ a k i, zc_kd a = 4 → 1 ≤ k → k ≤ 5 → τ (a + k) i = σ (a + k) i) (h : zs_pc σ m) : zs_pc τ m := by
  intro p p0 p1
  obtain ⟨q1, q2⟩ := h p p0 p1
  rw [h139, h11, h3]
  refine ⟨q1, fun q => ?_⟩
  have g := q2 q
  have g3 := zc_g3_3 hσ zc_s3
  have ka : zc_kd (σ 10 (σ 11 (σ 139 p))) = 4 := zc_ga10 hσ zc_s10 _ q.1 (by omega)
  rw [h10]
  obtain ⟨g1, g2, g3, g4⟩ := g
  refine ⟨zw_oo_fr (h4 _ _ ka) (h4 _ _ ka) (h4 _ _ ka) (fun k i k2 k5 => hA _ k i ka (by omega) k5) g1, ⟨fun f f0 f2 => ?_, ?_⟩, ?_, ?_⟩
  · rw [zs_cv_fr (fun i => hA _ 1 i ka (by decide) (by decide))]; exact g2.1 f f0 f2
  · rw [zs_cv_fr (fun i => hA _ 1 i ka (by decide) (by decide))]; exact g2.2
  · rw [h4 _ _ ka]; exact g3
  · rw [h4 _ _ ka]; exact g4
theorem zs_A5 {L : List (Nat × Int)} {σ τ : zq_S} (f : zc_Fr L σ τ) (h : (L.any (fun q => q.1 == 5) || L.any (fun q => q.1 == 6) || L.any (fun q => q.1 == 7) || L.any (fun q => q.1 == 8) || L.any (fun q => q.1 == 9)) = false) : ∀ a k i, zc_kd a = 4 → 1 ≤ k → k ≤ 5 → τ (a + k) i = σ (a + k) i := by
  intro a k i ka k1 k5
  simp only [Bool.or_eq_false_iff] at h
  obtain ⟨⟨⟨⟨h5, h6⟩, h7⟩, h8⟩, h9⟩ := h
  have hk : k = 1 ∨ k = 2 ∨ k = 3 ∨ k = 4 ∨ k = 5 := by omega
  rcases hk with rfl | rfl | rfl | rfl | rfl
  · exact f _ i (zc_out_ar (zc_p4_1 ka) h5)
  · exact f _ i (zc_out_ar (zc_p4_2 ka) h6)
  · exact f _ i (zc_out_ar (zc_p4_3 ka) h7)
  · exact f _ i (zc_out_ar (zc_p4_4 ka) h8)
  · exact f _ i (zc_out_ar (zc_p4_5 ka) h9)
theorem zs_ok_F {F G s : Int → Int} {m : Int} (h : zw_ok F s m) (hg : (∀ f, 0 ≤ f → f ≤ 2 → 0 ≤ G f ∧ G f ≤ 7) ∧ (0 ≤ G 3 ∧ G 3 ≤ m)) : zw_ok G s m := ⟨hg.1, hg.2, h.2.2⟩
theorem zs_ok_z {F s : Int → Int} {m : Int} (h : zw_ok F s m) : zw_ok (fun _ => 0) s m := zs_ok_F h ⟨fun _ _ _ => ⟨by decide, by decide⟩, by decide, by have := h.2.2.2.2.2.1.1; show (0 : Int) ≤ m; omega⟩
theorem zs_ok_c {F s t : Int → Int} {m : Int} (hs : ∀ i, 0 ≤ i → i ≤ 265 → t i = s i) (h : zw_ok F s m) : zw_ok F t m := by
  obtain ⟨h1, h2, h3, h4, h5, h6⟩ := h
  refine ⟨h1, h2, fun i i0 i1 => ?_, ?_, ?_, h6⟩
  · rw [hs i i0 (by omega)]; exact h3 i i0 i1
  · rw [hs 264 (by decide) (by decide)]; exact h4
  · rw [hs 265 (by decide) (by decide)]; exact h5
/-! ===== runs of steps ===== -/
def zs_ch (R : Int → zq_S → zq_S → Prop) : Nat → zq_S → zq_S → Prop
  | 0, σ, τ => τ = σ
  | n + 1, σ, τ => ∃ μ, zs_ch R n σ μ ∧ R n μ τ
def zs_cn (R : Int → zq_S → zq_S → Prop) (n : Int) (σ τ : zq_S) : Prop := zs_ch R n.toNat σ τ
theorem zs_cn_0 (R : Int → zq_S → zq_S → Prop) (σ : zq_S) : zs_cn R 0 σ σ := rfl
theorem zs_cn_s {R : Int → zq_S → zq_S → Prop} {n : Int} {σ μ τ : zq_S} (h0 : 0 ≤ n) (h : zs_cn R n σ μ) (k : R n μ τ) : zs_cn R (n + 1) σ τ := by
  obtain ⟨m, rfl⟩ := Int.eq_ofNat_of_zero_le h0
  exact ⟨μ, h, k⟩
/-- a step of the class, as runs have it -/
def zs_Rc (_ : Int) (σ τ : zq_S) : Prop := zc_T σ ∧ zs_ps σ ∧ zc_Fr [(140, 5), (140, 6), (140, 8), (140, 9), (140, 10), (140, 11), (140, 13), (140, 14), (141, 3), (141, 4), (141, 6), (142, -1), (143, -1), (144, -1), (145, -1), (146, -1), (154, -1), (254, -1)] σ τ ∧ zs_can σ 141 ∧ zs_sc σ τ (zs_oa σ 141) (zs_bt σ 141)
theorem zs_ps_st {n : Int} {σ τ : zq_S} (h : zs_Rc n σ τ) : zs_ps τ := by
  obtain ⟨hT, hp, f, -, sc⟩ := h
  have em : τ 141 0 = σ 141 0 := f 141 0 (zc_out_at zc_s141 rfl)
  refine ⟨?_, ?_, sc.2.1.2.2.2.2.1.1, sc.2.1.2.2.2.2.1.2.1⟩
  · rw [em]
    exact zs_pc_fr hT (f 3 3 (zc_out_at zc_s3 rfl)) (fun i => f 10 i (zc_out_ar zc_s10 rfl)) (fun i => f 11 i (zc_out_ar zc_s11 rfl)) (fun i => f 139 i (zc_out_ar zc_s139 rfl)) (fun a i ka => f a i (zc_out_ar ka rfl)) (zs_A5 f rfl) hp.1
  · rw [em]
    exact zs_ok_z sc.1.2.1
/-! ===== a step is gone back ===== -/
/-- a row of the past that can be undone -/
def zs_rk (c : Int → Int) : Prop := (0 ≤ c 0 ∧ c 0 ≤ 63) ∧ ∀ j, 0 ≤ j → j < c 6 → 0 ≤ c (7 + 2 * j) ∧ c (7 + 2 * j) < 264
def zs_ua (c : Int → Int) : Int → Int := fun j => c (7 + 2 * j)
def zs_uf (c : Int → Int) : Int → Int := fun j => c (8 + 2 * j)
theorem zs_row_undo {σ μ τ : zq_S} {c : Int → Int} (hcs : zw_cs μ 141 = zw_un (zs_ua c) (zs_uf c) (c 6) (zw_cs σ 141)) (h142 : ∀ i, τ 142 i = μ 142 i) (h143 : ∀ i, τ 143 i = μ 143 i) (z3 : τ 141 3 = c 1) (p4 : τ 141 4 = c 0) (c8 : τ 140 8 = zs_w (σ 140 8 - 1)) (c9 : τ 140 9 = c 3) (c10 : τ 140 10 = c 4) (c11 : τ 140 11 = c 5) (hg : ∀ i, τ 254 i = if i = c 0 then c 2 else σ 254 i) (c0 : 0 ≤ c 0) : zs_row τ = zs_undo c (zs_row σ) := by
  funext i
  show (if i ≤ 265 then zw_cs τ 141 i else if i ≤ 269 then τ 140 (i - 258) else τ 254 (i - 272)) = (if i < 264 then zw_un (zs_ua c) (zs_uf c) (c 6) (zs_row σ) i else if i = 264 then c 1 else if i = 265 then c 0 else if i = 266 then zs_w (zs_row σ 266 - 1) else if i = 267 then c 3 else if i = 268 then c 4 else if i = 269 then c 5 else if i = 272 + c 0 then c 2 else zs_row σ i)
  by_cases q1 : i < 264
  · rw [if_pos (by omega), if_pos q1]
    have e1 : zw_cs τ 141 i = zw_cs μ 141 i := by
      unfold zw_cs
      by_cases q2 : i < 8
      · rw [if_pos q2, if_pos q2]; exact h142 i
      · rw [if_neg q2, if_pos q1, if_neg q2, if_pos q1]; exact h143 _
    rw [e1, hcs]
    refine zw_un_c (fun _ _ _ => ⟨rfl, rfl⟩) ?_
    show zw_cs σ 141 i = (if i ≤ 265 then zw_cs σ 141 i else _)
    rw [if_pos (by omega)]
  · rw [if_neg q1]
    by_cases q2 : i = 264
    · rw [if_pos (by omega), if_pos q2, q2, zw_cs_z, z3]
    · rw [if_neg q2]
      by_cases q3 : i = 265
      · rw [if_pos (by omega), if_pos q3, q3, zw_cs_p, p4]
      · rw [if_neg (by omega), if_neg q3]
        by_cases q4 : i = 266
        · rw [if_pos (by omega), if_pos q4, q4]
          exact c8
        · rw [if_neg q4]
          by_cases q5 : i = 267
          · rw [if_pos (by omega), if_pos q5, q5]; exact c9
          · rw [if_neg q5]
            by_cases q6 : i = 268
            · rw [if_pos (by omega), if_pos q6, q6]; exact c10
            · rw [if_neg q6]
              by_cases q7 : i = 269
              · rw [if_pos (by omega), if_pos q7, q7]; exact c11
              · rw [if_neg (by omega), if_neg q7, hg]
                by_cases q8 : i = 272 + c 0
                · rw [if_pos (by omega), if_pos q8]
                · rw [if_neg (by omega), if_neg q8]
                  show _ = (if i ≤ 265 then zw_cs σ 141 i else if i ≤ 269 then σ 140 (i - 258) else σ 254 (i - 272))
                  rw [if_neg (by omega), if_neg (by omega)]
theorem zs_U_0 (σ : zq_S) : zs_U σ 0 = zs_row σ := rfl
theorem zs_U_s {σ : zq_S} {n : Int} (h : 0 ≤ n) : zs_U σ (n + 1) = zs_undo (σ (154 + (σ 140 6 + 99 - n) % 100)) (zs_U σ n) := by
  obtain ⟨k, rfl⟩ := Int.eq_ofNat_of_zero_le h
  rfl
/-! ===== where a store of the stepper stands ===== -/
def zs_pl (K m w i : Int) : Int := if w = 0 then (if 0 ≤ i ∧ i < K then i else -1) else if w = 1 then (if 0 ≤ i ∧ i ≤ m then 8 + i else -1) else if w = 2 then 264 else if w = 3 then 265 else -1
/-- a row of a LOG is so -/
def zs_is (I s : Int → Int) (K x : Int) : Prop := I x = s 265 ∧ 0 ≤ I (x + 1) ∧ I (x + 1) < K ∧ I (x + 2) = s (I (x + 1))
/-- the first row that is not so -/
def zs_rs (S : Int → zq_S → Prop) (C : zq_S → Prop) (R : Int → zq_S → zq_S → Prop) (n r : Int) (σ : zq_S) : Prop := 0 ≤ r ∧ ((r = n ∧ (n = 0 ∨ ∃ μ, zs_cn R (n - 1) σ μ ∧ S (n - 1) μ)) ∨ (r < n ∧ ∃ μ, zs_cn R r σ μ ∧ ¬ S r μ) ∨ (0 < r ∧ r < n ∧ ∃ μ, zs_cn R (r - 1) σ μ ∧ S (r - 1) μ ∧ ¬ C μ))
theorem zs_row_c {σ τ : zq_S} (h142 : ∀ i, τ 142 i = σ 142 i) (h143 : ∀ i, τ 143 i = σ 143 i) (h3 : τ 141 3 = σ 141 3) (h4 : τ 141 4 = σ 141 4) (h8 : τ 140 8 = σ 140 8) (h9 : τ 140 9 = σ 140 9) (h10 : τ 140 10 = σ 140 10) (h11 : τ 140 11 = σ 140 11) (hg : ∀ i, τ 254 i = σ 254 i) : zs_row τ = zs_row σ := by
  have e := zw_cs_c (b := 141) h142 h143 h3 h4
  funext i
  show (if i ≤ 265 then zw_cs τ 141 i else if i ≤ 269 then τ 140 (i - 258) else τ 254 (i - 272)) = (if i ≤ 265 then zw_cs σ 141 i else if i ≤ 269 then σ 140 (i - 258) else σ 254 (i - 272))
  rw [e, hg]
  by_cases c1 : i ≤ 265
  · rw [if_pos c1, if_pos c1]
  · rw [if_neg c1, if_neg c1]
    by_cases c2 : i ≤ 269
    · rw [if_pos c2, if_pos c2]
      have hi : i = 266 ∨ i = 267 ∨ i = 268 ∨ i = 269 := by omega
      rcases hi with rfl | rfl | rfl | rfl
      · exact h8
      · exact h9
      · exact h10
      · exact h11
    · rw [if_neg c2, if_neg c2]
/-! ===== the trial machine ===== -/
def zs_pt (σ : zq_S) : Prop := zs_pc σ (σ 147 0) ∧ zw_ok (fun _ => 0) (zw_cs σ 147) (σ 147 0)
def zs_tr (σ τ : zq_S) (a x : Int) : Prop := zw_cs τ 147 = zw_do (τ 150) (σ 147 0) (zw_ra σ a) 0 (σ a 4) (σ a 5) (σ a 6) (zw_up (zw_cs σ 147) 265 ((σ 147 4 + 1) % 64)) ∧ zw_ok (τ 150) (zw_cs τ 147) (σ 147 0) ∧ (∀ f, 0 ≤ f → f ≤ 3 → τ 150 f = zu_cv σ a x f)
/-- row j of the LOG is so on the trial machine -/
def zs_lo (it fr : Int) (j : Int) (σ : zq_S) : Prop := zs_is (σ it) (zw_cs σ 147) (zx_p2 (σ 3 1)) (fr + 3 * j)
def zs_Rt (it fr : Int) (j : Int) (σ τ : zq_S) : Prop := zc_T σ ∧ zs_pt σ ∧ zc_Fr [(147, 3), (147, 4), (147, 6), (148, -1), (149, -1), (150, -1), (151, -1), (152, -1)] σ τ ∧ zs_can σ 147 ∧ zs_lo it fr j σ ∧ zs_tr σ τ (zs_oa σ 147) (zs_bt σ 147)
theorem zs_pt_st {σ τ : zq_S} {a x : Int} (hT : zc_T σ) (hp : zs_pt σ) (f : zc_Fr [(147, 3), (147, 4), (147, 6), (148, -1), (149, -1), (150, -1), (151, -1), (152, -1)] σ τ) (h : zs_tr σ τ a x) : zs_pt τ := by
  have em : τ 147 0 = σ 147 0 := f 147 0 (zc_out_at zc_s147 rfl)
  refine ⟨?_, ?_⟩
  · rw [em]
    exact zs_pc_fr hT (f 3 3 (zc_out_at zc_s3 rfl)) (fun i => f 10 i (zc_out_ar zc_s10 rfl)) (fun i => f 11 i (zc_out_ar zc_s11 rfl)) (fun i => f 139 i (zc_out_ar zc_s139 rfl)) (fun a i ka => f a i (zc_out_ar ka rfl)) (zs_A5 f rfl) hp.1
  · rw [em]
    exact zs_ok_z h.2.1
/-- what the copy leaves -/
def zs_cp (σ μ : zq_S) : Prop := zc_T μ ∧ zc_Fr [(147, 0), (147, 3), (147, 4), (148, -1), (149, -1)] σ μ ∧ (∀ i, 0 ≤ i → i ≤ 265 → zw_cs μ 147 i = zw_cs σ 141 i) ∧ μ 147 0 = σ 141 0 ∧ zs_pt μ
theorem zs_cp_mk {σ μ : zq_S} (hσ : zc_T σ) (hμ : zc_T μ) (f : zc_Fr [(147, 0), (147, 3), (147, 4), (148, -1), (149, -1)] σ μ) (hc : ∀ i, 0 ≤ i → i ≤ 265 → zw_cs μ 147 i = zw_cs σ 141 i) (h0 : μ 147 0 = σ 141 0) (hp : zs_pc σ (σ 141 0)) (ho : zw_ok (fun _ => 0) (zw_cs σ 141) (σ 141 0)) : zs_cp σ μ := by
  refine ⟨hμ, f, hc, h0, ?_, ?_⟩
  · rw [h0]
    exact zs_pc_fr hσ (f 3 3 (zc_out_at zc_s3 rfl)) (fun i => f 10 i (zc_out_ar zc_s10 rfl)) (fun i => f 11 i (zc_out_ar zc_s11 rfl)) (fun i => f 139 i (zc_out_ar zc_s139 rfl)) (fun a i ka => f a i (zc_out_ar ka rfl)) (zs_A5 f rfl) hp
  · rw [h0]
    exact zs_ok_c hc ho
/-! ===== get and set ===== -/
theorem zs_pl_b {K m w i : Int} (K8 : K ≤ 8) (m255 : m ≤ 255) : zs_pl K m w i = -1 ∨ (0 ≤ zs_pl K m w i ∧ zs_pl K m w i ≤ 265) := by
  unfold zs_pl
  by_cases c0 : w = 0
  · rw [if_pos c0]; split <;> omega
  · rw [if_neg c0]
    by_cases c1 : w = 1
    · rw [if_pos c1]; split <;> omega
    · rw [if_neg c1]; split <;> (try split) <;> omega
theorem zs_pl_n {K m w i : Int} (h : (w = 0 ∧ ¬ (0 ≤ i ∧ i < K)) ∨ (w = 1 ∧ ¬ (0 ≤ i ∧ i ≤ m)) ∨ ¬ (0 ≤ w ∧ w ≤ 3)) : zs_pl K m w i = -1 := by
  unfold zs_pl
  by_cases c0 : w = 0
  · rw [if_pos c0, if_neg (by omega)]
  · rw [if_neg c0]
    by_cases c1 : w = 1
    · rw [if_pos c1, if_neg (by omega)]
    · rw [if_neg c1, if_neg (by omega), if_neg (by omega)]
def zs_wh (w i : Int) : Int := if w = 0 then zq_and i 7 else if w = 1 then 8 + zq_and i 255 else if w = 2 then 264 else 265
theorem zs_pl_y {K m w i : Int} (K8 : K ≤ 8) (m255 : m ≤ 255) (hw : 0 ≤ w ∧ w ≤ 3) (h0 : w = 0 → 0 ≤ i ∧ i < K) (h1 : w = 1 → 0 ≤ i ∧ i ≤ m) : zs_pl K m w i = zs_wh w i ∧ 0 ≤ zs_pl K m w i ∧ zs_pl K m w i ≤ 265 := by
  have a7 := zq_and_mask i 3 7 8 (by decide) (by decide) (by decide)
  have a255 := zq_and_mask i 8 255 256 (by decide) (by decide) (by decide)
  unfold zs_pl zs_wh
  by_cases c0 : w = 0
  · have z := h0 c0
    rw [if_pos c0, if_pos c0, if_pos z]; omega
  · rw [if_neg c0, if_neg c0]
    by_cases c1 : w = 1
    · have z := h1 c1
      rw [if_pos c1, if_pos c1, if_pos z]; omega
    · rw [if_neg c1, if_neg c1]
      by_cases c2 : w = 2
      · rw [if_pos c2, if_pos c2]; omega
      · rw [if_neg c2, if_neg c2, if_pos (by omega)]; omega
theorem zs_wh_cs {σ : zq_S} {w i r : Int} (hw : 0 ≤ w ∧ w ≤ 3) (hr : r = if w = 0 then σ 142 (zq_and i 7) else if w = 1 then σ 143 (zq_and i 255) else if w = 2 then σ 141 3 else σ 141 4) : r = zw_cs σ 141 (zs_wh w i) := by
  have a7 := zq_and_mask i 3 7 8 (by decide) (by decide) (by decide)
  have a255 := zq_and_mask i 8 255 256 (by decide) (by decide) (by decide)
  rw [hr]
  unfold zs_wh
  by_cases c0 : w = 0
  · rw [if_pos c0, if_pos c0, zw_cs_r (a := 142) rfl (by omega)]
  · rw [if_neg c0, if_neg c0]
    by_cases c1 : w = 1
    · rw [if_pos c1, if_pos c1, zw_cs_m (a := 143) rfl (by omega) (by omega), show 8 + zq_and i 255 - 8 = zq_and i 255 by omega]
    · rw [if_neg c1, if_neg c1]
      by_cases c2 : w = 2
      · rw [if_pos c2, if_pos c2, zw_cs_z]
      · rw [if_neg c2, if_neg c2, zw_cs_p]
def zs_gt (s : Int → Int) (K m w i : Int) : Int := if zs_pl K m w i < 0 then -1 else s (zs_pl K m w i)
theorem zs_gt_n {s : Int → Int} {K m w i : Int} (h : (w = 0 ∧ ¬ (0 ≤ i ∧ i < K)) ∨ (w = 1 ∧ ¬ (0 ≤ i ∧ i ≤ m)) ∨ ¬ (0 ≤ w ∧ w ≤ 3)) : -1 = zs_gt s K m w i := by
  unfold zs_gt
  rw [zs_pl_n h, if_pos (by decide)]
theorem zs_gt_y {σ : zq_S} {K m w i r : Int} (K8 : K ≤ 8) (m255 : m ≤ 255) (hw : 0 ≤ w ∧ w ≤ 3) (h0 : w = 0 → 0 ≤ i ∧ i < K) (h1 : w = 1 → 0 ≤ i ∧ i ≤ m) (hr : r = if w = 0 then σ 142 (zq_and i 7) else if w = 1 then σ 143 (zq_and i 255) else if w = 2 then σ 141 3 else σ 141 4) : r = zs_gt (zw_cs σ 141) K m w i := by
  obtain ⟨e, b0, -⟩ := zs_pl_y K8 m255 hw h0 h1
  unfold zs_gt
  rw [if_neg (by omega), e]
  exact zs_wh_cs hw hr
def zs_mo (w m : Int) : Int := if w = 2 then 1 else if w = 3 then 63 else m
/-- what set() leaves: P the place, r the answer -/
def zs_se (s t : Int → Int) (P M v r : Int) : Prop := (P < 0 ∨ v < 0 ∨ M < v → r = -1 ∧ ∀ i, t i = s i) ∧ (¬ (P < 0 ∨ v < 0 ∨ M < v) → r = s P ∧ t = zw_up s P v)
theorem zs_cs_nn {F s : Int → Int} {m P : Int} (h : zw_ok F s m) (h0 : 0 ≤ P) (h1 : P ≤ 265) : 0 ≤ s P := by
  obtain ⟨-, -, h3, h4, h5, -⟩ := h
  by_cases c : P < 264
  · exact (h3 P h0 c).1
  · by_cases c2 : P = 264
    · rw [c2]; exact h4.1
    · rw [show P = 265 by omega]; exact h5.1
theorem zs_gt_b {F s : Int → Int} {K m w i r : Int} (K8 : K ≤ 8) (m255 : m ≤ 255) (h : zw_ok F s m) (hr : r = zs_gt s K m w i) : (r < 0 ↔ zs_pl K m w i < 0) ∧ (0 ≤ zs_pl K m w i → r = s (zs_pl K m w i) ∧ zs_pl K m w i ≤ 265) := by
  have b := zs_pl_b (w := w) (i := i) K8 m255
  rw [hr]
  unfold zs_gt
  by_cases c : zs_pl K m w i < 0
  · rw [if_pos c]; exact ⟨⟨fun _ => c, fun _ => by decide⟩, fun h => absurd h (by omega)⟩
  · have z := zs_cs_nn h (P := zs_pl K m w i) (by omega) (by omega)
    rw [if_neg c]; exact ⟨⟨fun h => absurd h (by omega), fun h => absurd h c⟩, fun _ => ⟨rfl, by omega⟩⟩
theorem zs_pl_i {K m w i : Int} (h : 0 ≤ zs_pl K m w i) : (0 ≤ w ∧ w ≤ 3) ∧ (w = 0 → 0 ≤ i ∧ i < K) ∧ (w = 1 → 0 ≤ i ∧ i ≤ m) := by
  have n := @zs_pl_n K m w i
  refine ⟨?_, fun q => ?_, fun q => ?_⟩
  · by_cases c : 0 ≤ w ∧ w ≤ 3
    · exact c
    · have := n (Or.inr (Or.inr c)); omega
  · by_cases c : 0 ≤ i ∧ i < K
    · exact c
    · have := n (Or.inl ⟨q, c⟩); omega
  · by_cases c : 0 ≤ i ∧ i ≤ m
    · exact c
    · have := n (Or.inr (Or.inl ⟨q, c⟩)); omega
theorem zs_ne154 {row : Int} (k : zc_kd row = 154) : row ≠ 140 ∧ row ≠ 141 ∧ row ≠ 254 := ⟨fun h => by rw [h, zc_s140] at k; exact absurd k (by decide), fun h => by rw [h, zc_s141] at k; exact absurd k (by decide), fun h => by rw [h, zc_s254] at k; exact absurd k (by decide)⟩
