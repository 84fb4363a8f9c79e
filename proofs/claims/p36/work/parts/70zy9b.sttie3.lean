/-! ===== a step, side by side ===== -/
theorem zs_cv_rf {σ ρ : zq_S} {a o x : Int} (hρ : zx_T ρ) (h : zu_or σ ρ a o) (x0 : 0 ≤ x) (x1 : x < zx_p2 (ρ 0 2)) (f : Int) (f0 : 0 ≤ f) (f3 : f ≤ 3) : zu_cv σ a x f = zu_rf ρ o x f := zu_fo_tie hρ h.2.1 f0 f3 x0 x1
theorem zs_rf_b {σ ρ : zq_S} {a o x : Int} (hρ : zx_T ρ) (hB : zx_B ρ o) (h : zu_or σ ρ a o) (x0 : 0 ≤ x) (x1 : x < zx_p2 (ρ 0 2)) : (∀ f, 0 ≤ f → f ≤ 2 → 0 ≤ zu_rf ρ o x f ∧ zu_rf ρ o x f ≤ 7) ∧ (0 ≤ zu_rf ρ o x 3 ∧ zu_rf ρ o x 3 ≤ zx_p2 (ρ 0 0) - 1) := by
  have b := zu_cv_b hρ hB h x0 x1
  have e := zs_cv_rf hρ h x0 x1
  have zb := zx_g2 hρ
  refine ⟨fun f f0 f2 => ⟨(zu_fo_b _ _ _).1, ?_⟩, (zu_fo_b _ _ _).1, ?_⟩
  · rw [← e f f0 (by omega)]; exact b.1 f f0 f2
  · have l := zu_rf_lt ρ o x 3 (ρ 0 2).toNat
    rw [show (((ρ 0 2).toNat : Nat) : Int) = ρ 0 2 by omega] at l
    have l : zu_rf ρ o x 3 < zx_p2 (zx_cnt ρ o 3 (ρ 0 2)) := l
    have c := zu_bc hρ h.2.1 (f := 3) (by decide) (by decide)
    have k := h.2.2.2.2
    have p := zx_p2_le (m := zx_cnt ρ o 3 (ρ 0 2)) (n := ρ 0 0) (by omega)
    omega
theorem zs_og_mk {σ ρ : zq_S} {a o x : Int} (hσ : zc_T σ) (hρ : zx_T ρ) (hB : zx_B ρ o) (ka : zc_kd a = 4) (h : zu_or σ ρ a o) (x0 : 0 ≤ x) (x1 : x < zx_p2 (ρ 0 2)) : zs_og σ a x (zx_p2 (ρ 0 0) - 1) := by
  have b := zs_rf_b hρ hB h x0 x1
  have e := zs_cv_rf hρ h x0 x1
  have od := (zs_od (F := fun _ => 0) hσ hρ ka h (fun _ _ _ => ⟨by decide, by decide⟩)).1
  obtain ⟨-, -, ⟨⟨g1, g2, g3, g4⟩, g5, g6, -⟩, -⟩ := h
  have z4 := zx_ga4 hρ o
  refine ⟨⟨fun q => ⟨g5 q, by omega⟩, fun j j0 j1 => ?_⟩, ⟨fun f f0 f2 => ?_, ?_⟩, od⟩
  · obtain ⟨⟨e0, -⟩, s⟩ := g6 j j0 (by omega)
    have z := zx_ac0 hρ (18 * o + 6 * j) (by omega)
    exact ⟨by omega, s⟩
  · rw [e f f0 (by omega)]; exact b.1 f f0 f2
  · rw [e 3 (by decide) (by decide)]; exact b.2
theorem zs_pc_mk {σ ρ : zq_S} (hσ : zc_T σ) (hρ : zx_T ρ) (hO : zx_O ρ) (hK : zx_K ρ) (hT3 : zu_T3 σ ρ) (hT4 : zu_T4 σ ρ) : zs_pc σ (zx_p2 (ρ 0 0) - 1) := by
  intro p p0 p1
  have e := hT4 p p0 (by omega)
  have k := hK p p0 (by omega)
  have z := zx_ga14 hρ p
  rw [← e]
  refine ⟨z, fun q => ?_⟩
  have e3 := hT3.1.1
  have z3 := zx_g3 hρ
  have ka : zc_kd (σ 10 (σ 11 (ρ 14 p))) = 4 := zc_ga10 hσ zc_s10 _ q.1 (by omega)
  exact zs_og_mk hσ hρ (hO _ q.1 (by omega)).2 ka (hT3.2.2.1 _ q.1 (by omega)) z.1 k
theorem zs_ok_ρ {σ ρ : zq_S} (h : zu_T5 σ ρ) (c5 : 0 ≤ σ 140 5) : zw_ok (fun _ => 0) (zw_cs σ 141) (σ 141 0) ∧ zw_ok (fun _ => 0) (ρ 15) (σ 141 0) := by
  have z := h.2.2.2.2.1 0 (by decide) c5
  rw [zs_U_0] at z
  refine ⟨zs_ok_c (fun i _ i1 => (zs_row_l i1).symm) z, zs_ok_c (fun i i0 i1 => h.2.2.1 i ⟨i0, by omega, by omega, by omega⟩) z⟩
theorem zs_ps_mk {σ ρ : zq_S} (hσ : zc_T σ) (hρ : zx_T ρ) (hO : zx_O ρ) (hK : zx_K ρ) (hT3 : zu_T3 σ ρ) (hT4 : zu_T4 σ ρ) (hT5 : zu_T5 σ ρ) : zs_ps σ := by
  have c5 := zc_g140_5 hσ zc_s140
  refine ⟨?_, (zs_ok_ρ hT5 c5.1).1, hT5.2.2.2.2.2.1⟩
  rw [hT5.1]
  exact zs_pc_mk hσ hρ hO hK hT3 hT4
theorem zs_la_mk {σ ρ : zq_S} (hT5 : zu_T5 σ ρ) : zs_la ρ := by
  intro h
  rcases hT5.2.2.2.2.2.2 with q | q
  · omega
  · exact q.2.2.1
/-- ORDERS at P -/
theorem zs_can_iff {σ ρ : zq_S} {b : Int} (hρ : zx_T ρ) (hK : zx_K ρ) (hT3 : zu_T3 σ ρ) (hT4 : zu_T4 σ ρ) (e : ρ 15 265 = σ b 4) : zs_bt σ b = zs_rx ρ ∧ (0 ≤ zs_rx ρ ∧ zs_rx ρ < zx_p2 (ρ 0 2)) ∧ (zs_can σ b ↔ zs_rcan ρ) ∧ (∀ o, zt_ow ρ (zs_rx ρ) o → 0 ≤ o → σ 11 (zs_rx ρ) = o ∧ o < ρ 0 3) := by
  have zp := zx_stP hρ
  have ex : zs_bt σ b = zs_rx ρ := by
    unfold zs_bt zs_rx
    rw [← e, hT4 _ (by omega) (by omega)]
  have x0 : 0 ≤ zs_rx ρ := (zx_ga14 hρ _).1
  have x1 : zs_rx ρ < zx_p2 (ρ 0 2) := hK _ (by omega) (by omega)
  have own : ∀ o, zt_ow ρ (zs_rx ρ) o → 0 ≤ o → σ 11 (zs_rx ρ) = o ∧ o < ρ 0 3 := fun o ho o0 => by
    rcases zu_own hT3 x0 x1 ho with ⟨w, z⟩ | ⟨w, z, z2⟩
    · omega
    · exact ⟨w, z2⟩
  have e3 := hT3.1.1
  refine ⟨ex, ⟨x0, x1⟩, ?_, own⟩
  unfold zs_can
  rw [ex]
  constructor
  · intro q
    have bb := (hT3.2.2.2.2 _ x0 x1).2 q.1
    refine ⟨σ 11 (zs_rx ρ), ⟨fun h => absurd h (by omega), fun _ => ⟨bb.1, bb.2, fun o o0 o1 z => ?_⟩⟩, q.1⟩
    exact hT3.2.2.2.1 o _ o0 o1 bb.1 (zt_is_co z bb.2)
  · rintro ⟨o, ho, o0⟩
    have z := own o ho o0
    omega
/-- the state behind an ORDER, side by side -/
theorem zs_do_tie {σ ρ : zq_S} {a o x v la ai : Int} {G s : Int → Int} (hρ : zx_T ρ) (hO : zx_O ρ) (o0 : 0 ≤ o) (o1 : o < ρ 0 3) (h : zu_or σ ρ a o) (x0 : 0 ≤ x) (x1 : x < zx_p2 (ρ 0 2)) (hs : ∀ i, 0 ≤ i → i ≤ 265 → s i = ρ 15 i) (ok : zw_ok (fun _ => 0) (ρ 15) (zx_p2 (ρ 0 0) - 1)) (hG : ∀ f, 0 ≤ f → f ≤ 3 → G f = zu_cv σ a x f) (hv : 0 ≤ v ∧ v ≤ 63) : ∀ i, 0 ≤ i → i ≤ 265 → zw_do G (zx_p2 (ρ 0 0) - 1) (zw_ra σ a) 0 (σ a 4) (σ a 5) (σ a 6) (zw_up s 265 v) i = zw_do (zu_rf ρ o x) (zx_p2 (ρ 0 0) - 1) (ρ 6) o (ρ 3 o) (ρ 4 o) (ρ 5 o) (zw_up (zw_up (zw_up (ρ 15) 270 la) 271 ai) 265 v) i := by
  have b := zs_rf_b hρ (hO o o0 o1).2 h x0 x1
  have e := zs_cv_rf hρ h x0 x1
  have hu : ∀ i, 0 ≤ i → i ≤ 265 → zw_up (zw_up (zw_up (ρ 15) 270 la) 271 ai) 265 v i = zw_up (ρ 15) 265 v i := fun i i0 i1 => by
    show (if i = 265 then v else if i = 271 then ai else if i = 270 then la else ρ 15 i) = (if i = 265 then v else ρ 15 i)
    rw [if_neg (show ¬ i = 271 by omega), if_neg (show ¬ i = 270 by omega)]
  have hs2 : ∀ i, 0 ≤ i → i ≤ 265 → zw_up s 265 v i = zw_up (zw_up (zw_up (ρ 15) 270 la) 271 ai) 265 v i := fun i i0 i1 => by
    rw [hu i i0 i1]
    show (if i = 265 then v else s i) = (if i = 265 then v else ρ 15 i)
    rw [hs i i0 i1]
  have okF : zw_ok (zu_rf ρ o x) (zw_up (zw_up (zw_up (ρ 15) 270 la) 271 ai) 265 v) (zx_p2 (ρ 0 0) - 1) := zs_ok_c hu (zw_ok_p ok b hv)
  obtain ⟨⟨g1, g2, g3, g4⟩, g5, g6, -⟩ := h.2.2.1
  have z4 := zx_ga4 hρ o
  rw [g1, g2, g3]
  refine zw_do_c (fun f f0 f3 => (hG f f0 f3).trans (e f f0 f3)) hs2 okF (fun q => ⟨z4.1, z4.2, by have := g5 (by omega); omega⟩) (fun j j0 j1 => ⟨zw_sr_ac h.2.2.1 j0 j1, zx_ac0 hρ _ (by omega), zx_ac1 hρ _ (by omega), ?_⟩)
  have q := (hO o o0 o1).1 j j0 j1
  have z := zx_ac4 hρ (18 * o + 6 * j + 4) (by omega)
  omega
theorem zs_wt_tie {L A L' A' w w' : Int} {S S' : Nat → Prop} (hl : (L' ≤ 0 ∧ L ≤ 1) ∨ (0 < L' ∧ L = L' + 1 ∧ (0 ≤ A' ∧ A' ≤ 1023) ∧ ∀ i : Nat, zw_tb A i ↔ zw_tb A' (zs_sw i))) (hS : ∀ i : Nat, S i ↔ S' (zs_sw i)) (h : zs_wt L A S w) (k : zs_wr L' A' S' w') : w = w' := by
  rcases hl with q | ⟨q0, q1, -, q2⟩
  · have h1 : w = 0 := by
      rcases h with ⟨a, -⟩ | ⟨-, a⟩
      · omega
      · exact a
    have k1 : w' = 0 := by
      rcases k with ⟨a, -⟩ | ⟨-, a⟩
      · omega
      · exact a
    omega
  · have ex : (∃ i : Nat, i < 10 ∧ zw_tb A i ∧ S i) ↔ (∃ i : Nat, i < 10 ∧ zw_tb A' i ∧ S' i) := by
      constructor
      · rintro ⟨i, i1, i2, i3⟩
        exact ⟨zs_sw i, (zs_sw_b i).1.mpr i1, (q2 i).mp i2, (hS i).mp i3⟩
      · rintro ⟨i, i1, i2, i3⟩
        have sb := zs_sw_b i
        refine ⟨zs_sw i, sb.1.mpr i1, (q2 _).mpr ?_, (hS _).mpr ?_⟩
        · rw [sb.2.1]; exact i2
        · rw [sb.2.1]; exact i3
    rcases h with ⟨a1, a2, a3⟩ | ⟨a1, a2⟩
    · rcases k with ⟨b1, b2, b3⟩ | ⟨b1, b2⟩
      · omega
      · exact absurd ⟨q0, ex.mp a2⟩ b1
    · rcases k with ⟨b1, b2, b3⟩ | ⟨b1, b2⟩
      · exact absurd ⟨by omega, ex.mpr b2⟩ a1
      · omega
theorem zs_undo_nw {σ τ : zq_S} {i : Int} (hσ : zc_T σ) (hi : zs_ix i) (p : 0 ≤ σ 141 4 ∧ σ 141 4 ≤ 63) (c8 : τ 140 8 = zs_w (σ 140 8 + 1)) (cg : ∀ i, τ 254 i = if i = σ 141 4 then τ 141 4 else σ 254 i) (nw : zs_nw σ τ (154 + σ 140 6)) : zs_undo (τ (154 + σ 140 6)) (zs_row τ) i = zs_row σ i := by
  obtain ⟨⟨a0, a1, a2, a3, a4, a5⟩, b, -⟩ := nw
  obtain ⟨i0, i1, i2, i3⟩ := hi
  unfold zs_undo
  by_cases q1 : i < 264
  · rw [if_pos q1, zs_row_l (by omega), ← b i q1]
    exact zw_un_c (fun _ _ _ => ⟨rfl, rfl⟩) (zs_row_l (by omega))
  · rw [if_neg q1]
    by_cases q2 : i = 264
    · rw [if_pos q2, q2, zs_row_264, a1]
    · rw [if_neg q2]
      by_cases q3 : i = 265
      · rw [if_pos q3, q3, zs_row_265, a0]
      · rw [if_neg q3]
        by_cases q4 : i = 266
        · rw [if_pos q4, q4, zs_row_266, zs_row_266, c8]
          exact zs_w_m (zc_g140_8 hσ zc_s140)
        · rw [if_neg q4]
          by_cases q5 : i = 267
          · rw [if_pos q5, q5, zs_row_267, a3]
          · rw [if_neg q5]
            by_cases q6 : i = 268
            · rw [if_pos q6, q6, zs_row_268, a4]
            · rw [if_neg q6]
              by_cases q7 : i = 269
              · rw [if_pos q7, q7, zs_row_269, a5]
              · rw [if_neg q7, zs_row_g (by omega), zs_row_g (by omega), a0]
                by_cases q8 : i = 272 + σ 141 4
                · rw [if_pos q8, a2, q8]
                  congr 1
                  omega
                · rw [if_neg q8, cg, if_neg (by omega)]
theorem zs_os_c {F G : Int → Int} {w : Int} {i : Nat} (h0 : 0 ≤ w) (h : ∀ f, 0 ≤ f → f ≤ 3 → G f = F f) : zw_os G w i ↔ zw_os F w i := by
  unfold zw_os
  by_cases c : w < 3
  · rw [h w h0 (by omega)]
    constructor
    · rintro (q | q | q | q)
      · exact Or.inl q
      all_goals omega
    · rintro (q | q | q | q)
      · exact Or.inl q
      all_goals omega
  · by_cases d : 6 ≤ w ∧ w < 9
    · rw [h (w - 6) (by omega) (by omega)]
      constructor
      · rintro (q | q | q | q)
        · omega
        · omega
        · exact Or.inr (Or.inr (Or.inl q))
        · exact Or.inr (Or.inr (Or.inr q))
      · rintro (q | q | q | q)
        · omega
        · omega
        · exact Or.inr (Or.inr (Or.inl q))
        · exact Or.inr (Or.inr (Or.inr q))
    · constructor
      · rintro (q | q | q | q)
        · omega
        · exact Or.inr (Or.inl q)
        · exact Or.inr (Or.inr (Or.inl q))
        · omega
      · rintro (q | q | q | q)
        · omega
        · exact Or.inr (Or.inl q)
        · exact Or.inr (Or.inr (Or.inl q))
        · omega
theorem zs_ob_c {F G : Int → Int} {w : Int} {i : Nat} (h : ∀ f, 0 ≤ f → f ≤ 3 → G f = F f) : zw_ob G w i ↔ zw_ob F w i := by
  unfold zw_ob
  constructor
  · rintro ⟨a, b, e⟩; exact ⟨a, b, by rw [← h (w - 6) (by omega) (by omega)]; exact e⟩
  · rintro ⟨a, b, e⟩; exact ⟨a, b, by rw [h (w - 6) (by omega) (by omega)]; exact e⟩
theorem zs_us_c {ρ : zq_S} {F G : Int → Int} {o : Int} {i : Nat} (hρ : zx_T ρ) (hO : zx_O ρ) (o0 : 0 ≤ o) (o1 : o < ρ 0 3) (hd : ρ 3 o ≠ 0 → ρ 4 o ≠ 3) (h : ∀ f, 0 ≤ f → f ≤ 3 → G f = F f) : zw_us G (ρ 6) (18 * o) (ρ 5 o) (ρ 3 o) (ρ 4 o) i ↔ zw_us F (ρ 6) (18 * o) (ρ 5 o) (ρ 3 o) (ρ 4 o) i := by
  have z4 := zx_ga4 hρ o
  have key : ∀ j, 0 ≤ j → j < ρ 5 o → ((zw_ob G (ρ 6 (18 * o + 6 * j)) i ∨ zw_os G (ρ 6 (18 * o + 6 * j + 1)) i ∨ (0 < ρ 6 (18 * o + 6 * j + 3) ∧ zw_os G (ρ 6 (18 * o + 6 * j + 4)) i)) ↔ (zw_ob F (ρ 6 (18 * o + 6 * j)) i ∨ zw_os F (ρ 6 (18 * o + 6 * j + 1)) i ∨ (0 < ρ 6 (18 * o + 6 * j + 3) ∧ zw_os F (ρ 6 (18 * o + 6 * j + 4)) i))) := fun j j0 j1 => by
    have a1 := zx_ac1 hρ (18 * o + 6 * j + 1) (by omega)
    have a4 := (hO o o0 o1).1 j j0 j1
    rw [zs_ob_c h, zs_os_c a1.1 h, zs_os_c a4 h]
  unfold zw_us
  constructor
  · rintro (⟨a, b⟩ | ⟨j, hj, b⟩)
    · exact Or.inl ⟨a, (zs_os_c z4.1 h).mp b⟩
    · exact Or.inr ⟨j, hj, (key j hj.1 hj.2).mp b⟩
  · rintro (⟨a, b⟩ | ⟨j, hj, b⟩)
    · exact Or.inl ⟨a, (zs_os_c z4.1 h).mpr b⟩
    · exact Or.inr ⟨j, hj, (key j hj.1 hj.2).mpr b⟩
theorem zs_ts_c {ρ : zq_S} {F G : Int → Int} {o : Int} {i : Nat} (hρ : zx_T ρ) (h : ∀ f, 0 ≤ f → f ≤ 3 → G f = F f) : zw_ts G (ρ 6) (18 * o) (ρ 5 o) i ↔ zw_ts F (ρ 6) (18 * o) (ρ 5 o) i := by
  have key : ∀ j : Int, zw_at G (ρ 6 (18 * o + 6 * j)) i ↔ zw_at F (ρ 6 (18 * o + 6 * j)) i := fun j => by
    have a := zx_ac0 hρ (18 * o + 6 * j) (by omega)
    unfold zw_at
    by_cases c : ρ 6 (18 * o + 6 * j) < 3
    · rw [h _ a.1 (by omega)]
    · constructor
      · rintro (q | q)
        · omega
        · exact Or.inr q
      · rintro (q | q)
        · omega
        · exact Or.inr q
  unfold zw_ts
  exact ⟨fun ⟨j, hj, b⟩ => ⟨j, hj, (key j).mp b⟩, fun ⟨j, hj, b⟩ => ⟨j, hj, (key j).mpr b⟩⟩
def zs_TT (σ ρ : zq_S) : Prop := (σ 3 0 = ρ 0 0 ∧ σ 3 1 = ρ 0 1 ∧ σ 3 2 = ρ 0 2 ∧ σ 140 12 = ρ 0 29) ∧ zu_T3 σ ρ ∧ zu_T4 σ ρ ∧ zu_T5 σ ρ
theorem zs_sim5 {n : Int} {σ τ ρ π : zq_S} (hT : zs_TT σ ρ) (hc : zs_Rc n σ τ) (hr : zs_Rr n ρ π) : zu_T5 τ π := by
  obtain ⟨⟨-, -, -, e12⟩, hT3, hT4, hT5⟩ := hT
  obtain ⟨hσ, ps, f, can, ⟨⟨cD, cok, cF⟩, ⟨⟨wc, wt, c9, c10⟩, c8, c11, c13, ⟨a0, a1, ab⟩, cg⟩, ⟨p6, p5⟩, prow, nw⟩⟩ := hc
  obtain ⟨hρ, hπ, hO, hK, rf, ⟨o, ow, o0, ⟨w, ai, wr, ⟨ai0, ai1, aib⟩, st, s6, s7, s8, s9, s0, s1, sg⟩, kp, -⟩⟩ := hr
  obtain ⟨kp1, kp2, kp3⟩ := kp rfl
  obtain ⟨m0, r26, row, past, ok, lt14, lt⟩ := hT5
  have hT5 : zu_T5 σ ρ := ⟨m0, r26, row, past, ok, lt14, lt⟩
  have z5 := zc_g140_5 hσ zc_s140
  have z6 := zc_g140_6 hσ zc_s140
  have z27 := zx_g27 hρ
  have okρ := zs_ok_ρ hT5 z5.1
  have e265 : ρ 15 265 = σ 141 4 := (row 265 (by unfold zs_ix; omega)).trans zs_row_265
  have zp := zx_stP hρ
  obtain ⟨ex, ⟨x0, x1⟩, -, own⟩ := zs_can_iff (b := 141) hρ hK hT3 hT4 e265
  obtain ⟨own1, o1⟩ := own o ow o0
  have z3 := zx_g3 hρ
  have eoa : zs_oa σ 141 = σ 10 o := by unfold zs_oa; rw [ex, own1]
  have ka : zc_kd (σ 10 o) = 4 := zc_ga10 hσ zc_s10 o o0 (by omega)
  have hor := hT3.2.2.1 o o0 o1
  rw [ex, eoa] at cF
  rw [eoa] at cD wt c9 c13 ab
  have hF : ∀ f, 0 ≤ f → f ≤ 2 → 0 ≤ τ 144 f ∧ τ 144 f ≤ 7 := cok.1
  have od := zs_od (F := τ 144) hσ hρ ka hor hF
  have fF : ∀ f, 0 ≤ f → f ≤ 3 → τ 144 f = zu_rf ρ o (zs_rx ρ) f := fun f f0 f3 => (cF f f0 f3).trans (zs_cv_rf hρ hor x0 x1 f f0 f3)
  have g11 : σ (σ 10 o) 11 = ρ 7 o := hor.2.2.1.1.2.2.2
  have em : τ 141 0 = σ 141 0 := f 141 0 (zc_out_at zc_s141 rfl)
  have e00 : π 0 0 = ρ 0 0 := rf 0 0 (by decide) (by decide) (by decide) (by omega)
  have hcs : ∀ i, 0 ≤ i → i ≤ 265 → zw_cs σ 141 i = ρ 15 i := fun i i0 i1 => by rw [row i ⟨i0, by omega, by omega, by omega⟩, zs_row_l i1]
  have hD : ∀ i, 0 ≤ i → i ≤ 265 → zw_cs τ 141 i = π 15 i := fun i i0 i1 => by
    rw [st i i1, cD, m0]
    have k := zs_do_tie (σ := σ) (la := ρ 7 o - 1) (ai := ai) (v := (σ 141 4 + 1) % 64) hρ hO o0 o1 hor x0 x1 hcs (by rw [← m0]; exact okρ.2) cF (by omega) i i0 i1
    rw [k]
    unfold zs_D
    rw [e265]
  have ep : π 15 265 = τ 141 4 := by rw [← hD 265 (by decide) (by decide), zw_cs_p]
  have eg : ρ 15 (272 + ρ 15 265) = σ 254 (σ 141 4) := by
    rw [row _ (by unfold zs_ix; omega), zs_row_g (by omega), e265]
    congr 1
    omega
  have us_c : ∀ i : Nat, zw_us (τ 144) (ρ 6) (18 * o) (ρ 5 o) (ρ 3 o) (ρ 4 o) i ↔ zw_us (zu_rf ρ o (zs_rx ρ)) (ρ 6) (18 * o) (ρ 5 o) (ρ 3 o) (ρ 4 o) i := fun i => zs_us_c hρ hO o0 o1 (fun q => by have := hor.2.2.1.2.1 (by have := hor.2.2.1.1.1; omega); have z := hor.2.2.1.1.2.1; omega) fF
  have ts_c : ∀ i : Nat, zw_ts (τ 144) (ρ 6) (18 * o) (ρ 5 o) i ↔ zw_ts (zu_rf ρ o (zs_rx ρ)) (ρ 6) (18 * o) (ρ 5 o) i := fun i => zs_ts_c hρ fF
  have ew : wc = w := zs_wt_tie lt (fun i => (od.2.1 i).trans (us_c _)) wt wr
  have erow : ∀ i, zs_ix i → π 15 i = zs_row τ i := fun i hi => by
    obtain ⟨i0, i1, i2, i3⟩ := hi
    by_cases q1 : i ≤ 265
    · rw [zs_row_l q1]; exact (hD i i0 q1).symm
    · by_cases q2 : i = 266
      · rw [q2, s6, zs_row_266, c8, row 266 (by unfold zs_ix; omega), zs_row_266]
      · by_cases q3 : i = 267
        · rw [q3, s7, zs_row_267, c9, row 267 (by unfold zs_ix; omega), zs_row_267, eg, ep, ew, g11, e12]
        · by_cases q4 : i = 268
          · rw [q4, s8, zs_row_268, c10, row 268 (by unfold zs_ix; omega), zs_row_268, ew]
          · by_cases q5 : i = 269
            · rw [q5, s9, zs_row_269, c11, row 269 (by unfold zs_ix; omega), zs_row_269, eg, ep]
            · rw [sg i (by omega), zs_row_g (by omega), cg, ep, e265]
              by_cases q6 : i = 272 + σ 141 4
              · rw [if_pos q6, if_pos (by omega)]
              · rw [if_neg q6, if_neg (by omega), row i ⟨i0, i1, i2, i3⟩, zs_row_g (by omega)]
  have hU : ∀ i, zs_ix i → ∀ k : Int, 0 ≤ k → k < 100 → zs_U τ (k + 1) i = zs_U σ k i := fun i hi k k0 k1 => by
    have z := zs_UF_step (R := fun r => σ (154 + r)) (R' := fun r => τ (154 + r)) (nx := σ 140 6) (nx' := τ 140 6) (s := zs_row σ) (s' := zs_row τ) (i := i) (by omega) p6 (fun r r0 r1 => ((zc_ga154 hσ (zc_e154 r0 r1) 6).1 rfl).2) (fun r j r0 r1 rn _ _ => prow r j r0 r1 rn) (zs_undo_nw hσ hi (by omega) c8 cg nw) k.toNat (by omega)
    unfold zs_U
    rw [show (k + 1).toNat = k.toNat + 1 by omega]
    exact z
  have z26 : π 0 26 = τ 140 5 := by
    rw [kp3, p5, r26]
  refine ⟨by rw [em, e00]; exact m0, z26, erow, fun k k0 k1 => ⟨fun i hi => ?_, ?_⟩, fun k k0 k1 => ?_, ⟨a0, a1⟩, ?_⟩
  · have k99 : k < 100 := by
      have : τ 140 5 ≤ 100 := by rw [p5]; split <;> omega
      omega
    rw [hU i hi k k0 k99, kp1, kp2]
    obtain ⟨i0, i1, i2, i3⟩ := hi
    by_cases c : k = 0
    · subst c
      rw [if_pos (by omega), zs_U_0, ← row i ⟨i0, i1, i2, i3⟩]
      congr 1
      omega
    · have k2 : k - 1 < σ 140 5 := by
        have : τ 140 5 ≤ σ 140 5 + 1 := by rw [p5]; split <;> omega
        omega
      rw [if_neg (by omega)]
      have z := (past (k - 1) (by omega) k2).1 i ⟨i0, i1, i2, i3⟩
      rw [show k - 1 + 1 = k by omega] at z
      rw [← z]
      congr 1
      omega
  · by_cases c : k = 0
    · rw [show (τ 140 6 + 99 - k) % 100 = σ 140 6 by omega]
      obtain ⟨⟨n0, -⟩, -, n2⟩ := nw
      exact ⟨by rw [n0]; omega, n2⟩
    · have k2 : k - 1 < σ 140 5 := by
        have : τ 140 5 ≤ σ 140 5 + 1 := by rw [p5]; split <;> omega
        omega
      have k99 : k < 100 := by
        have : τ 140 5 ≤ 100 := by rw [p5]; split <;> omega
        omega
      have z := (past (k - 1) (by omega) k2).2
      rw [show (τ 140 6 + 99 - k) % 100 = (σ 140 6 + 99 - (k - 1)) % 100 by omega, show τ (154 + (σ 140 6 + 99 - (k - 1)) % 100) = σ (154 + (σ 140 6 + 99 - (k - 1)) % 100) from funext (fun i => prow _ i (by omega) (by omega) (by omega))]
      exact z
  · rw [em]
    by_cases c : k = 0
    · rw [c, zs_U_0]
      exact zs_ok_c (fun i _ i1 => zs_row_l i1) (zs_ok_z cok)
    · have k2 : k - 1 ≤ σ 140 5 ∧ k ≤ 100 := by
        have : τ 140 5 ≤ σ 140 5 + 1 ∧ τ 140 5 ≤ 100 := by rw [p5]; split <;> omega
        omega
      have z := ok (k - 1) (by omega) k2.1
      refine zs_ok_c (fun i i0 i1 => ?_) z
      have y := hU i ⟨i0, by omega, by omega, by omega⟩ (k - 1) (by omega) (by omega)
      rw [show k - 1 + 1 = k by omega] at y
      exact y
  · rw [s0, s1, c13, g11]
    by_cases c : ρ 7 o - 1 ≤ 0
    · exact Or.inl ⟨c, by omega⟩
    · refine Or.inr ⟨by omega, by omega, ⟨ai0, ai1⟩, fun i => ?_⟩
      rw [ab i, od.2.2 i, ts_c, aib]
