/-! ===== the narrow machine: the tie ===== -/
section ZNL
variable {A B C E : Int → Int} {o g d n p h e m q a b c u v w x r : Int} {s : Int → Int}
theorem zn_Lk_sy (k : zn_Lk A o g d n B p h e m) : zn_Lk B p h e m A o g d n := fun s hs y y0 y8 => (k s hs y y0 y8).symm
theorem zn_Lk_tr (k : zn_Lk A o g d n B p h e m) (l : zn_Lk B p h e m C q a b c) : zn_Lk A o g d n C q a b c := fun s hs y y0 y8 => (k s hs y y0 y8).trans (l s hs y y0 y8)
theorem zn_Lk_rs (k : zn_Lk A o g d n B p h e m) (hx : 0 ≤ x ∧ x ≤ 8) (hs : zn_st s) (z : zn_rs A o g d n x s) : zn_rs B p h e m x s := by
  obtain ⟨u, v, u0, uv, vv, z⟩ := z
  have su := zn_st_up (x := x) hs ⟨u0, by omega⟩ (v := u)
  have sv := zn_st_up (x := x) hs ⟨by omega, vv⟩ (v := v)
  refine ⟨u, v, u0, uv, vv, ?_⟩
  unfold zn_un at z ⊢
  rw [k _ su x hx.1 hx.2, k _ sv x hx.1 hx.2] at z
  rcases z with ⟨y, y0, y8, yx, z⟩ | z
  · exact Or.inl ⟨y, y0, y8, yx, by rw [← k _ su y y0 y8, ← k _ sv y y0 y8]; exact z⟩
  · exact Or.inr z
theorem zn_Lk_P (k : zn_Lk A o g d n B p h e m) (hx : 0 ≤ x ∧ x ≤ 8) : zn_P A o g d n x ↔ zn_P B p h e m x := ⟨fun ⟨s, hs, z⟩ => ⟨s, hs, zn_Lk_rs k hx hs z⟩, fun ⟨s, hs, z⟩ => ⟨s, hs, zn_Lk_rs (zn_Lk_sy k) hx hs z⟩⟩
theorem zn_Lk_bs (k : zn_Lk A o g d n B p h e m) : zn_bs (zn_P A o g d n) 9 = zn_bs (zn_P B p h e m) 9 := zn_bs_c (fun _ x0 x8 => zn_Lk_P k ⟨x0, x8⟩) 9 (Nat.le_refl 9)
theorem zn_Lk_cb (k : zn_Lk A o g d n B p h e m) (hs : zn_st s) {i : Nat} (z : zn_cb A o g d n s i) : zn_cb B p h e m s i := by
  obtain ⟨x, x0, x8, bx, z⟩ := z
  exact ⟨x, x0, x8, bx, by rw [← k s hs x x0 x8]; exact z⟩
theorem zn_Lk_Wm (k : zn_Lk A o g d n B p h e m) (z : zn_Wm A o g d n r) : zn_Wm B p h e m r := ⟨z.1, fun i => (z.2 i).trans ⟨fun ⟨s, hs, y⟩ => ⟨s, hs, zn_Lk_cb k hs y⟩, fun ⟨s, hs, y⟩ => ⟨s, hs, zn_Lk_cb (zn_Lk_sy k) hs y⟩⟩⟩
theorem zn_Wm_u (z : zn_Wm A o g d n r) (y : zn_Wm A o g d n u) : r = u := by
  obtain ⟨k, rfl⟩ := Int.eq_ofNat_of_zero_le z.1.1
  obtain ⟨l, rfl⟩ := Int.eq_ofNat_of_zero_le y.1.1
  have t : k = l := Nat.eq_of_testBit_eq (fun i => by
    have a := z.2 i
    have b := y.2 i
    have ab := a.trans b.symm
    have ab : k.testBit i = true ↔ l.testBit i = true := ab
    cases hk : k.testBit i <;> cases hl : l.testBit i <;> simp_all)
  rw [t]
end ZNL
/-- rows that are the same are done alike -/
theorem zn_Lk_rows {A B : Int → Int} {o g d n : Int} (hg : zn_g A o g d n) (hA : ∀ i, 18 * o ≤ i → i < 18 * o + 18 → B i = A i) (n3 : n ≤ 3) : zn_Lk B o g d n A o g d n := fun s hs y y0 y8 => by
  have b := zn_z_b ⟨y0, y8⟩
  exact zw_do_c (fun _ _ _ => rfl) (fun _ _ _ => rfl) (zn_ok_st hs) hg.1 (fun j j0 j1 => ⟨⟨hA _ (by omega) (by omega), hA _ (by omega) (by omega), hA _ (by omega) (by omega), hA _ (by omega) (by omega), hA _ (by omega) (by omega), hA _ (by omega) (by omega)⟩, hg.2 j j0 j1⟩) _ b.1 b.2.1
/-- the class's ORDER does what the reference's does -/
theorem zn_or_Lk {σ ρ : zq_S} {a o : Int} (hρ : zx_T ρ) (hA : zx_A ρ o) (h : zu_or σ ρ a o) : zn_Lk (zw_ra σ a) 0 (σ a 4) (σ a 5) (σ a 6) (ρ 6) o (ρ 3 o) (ρ 4 o) (ρ 5 o) := fun s hs y y0 y8 => by
  have b := zn_z_b ⟨y0, y8⟩
  have hac := h.2.2.1
  obtain ⟨⟨g1, g2, g3, g4⟩, g5, g6, -⟩ := h.2.2.1
  have gr := zn_g_r hρ hA (by by_cases c : ρ 3 o = 0; exact Or.inl c; exact Or.inr (fun q => g5 (by omega) (by omega)))
  unfold zn_o
  rw [g1, g2, g3]
  exact zw_do_c (fun _ _ _ => rfl) (fun _ _ _ => rfl) (zn_ok_st hs) gr.1 (fun j j0 j1 => ⟨zw_sr_ac hac j0 j1, gr.2 j j0 j1⟩) _ b.1 b.2.1
/-! letters -/
theorem zn_nbF : ∀ x : Fin 10, ∀ k : Fin 6, ((zt_nmb ((x.val : Nat) : Int)).toNat.testBit k.val = true ↔ ((x.val < 3 ∧ k.val = x.val) ∨ (x.val = 4 ∧ k.val = 3) ∨ (x.val = 5 ∧ k.val = 4) ∨ (6 ≤ x.val ∧ (k.val = 5 ∨ (x.val < 9 ∧ k.val + 6 = x.val))))) := by decide +kernel
theorem zn_nb {x : Int} (h : 0 ≤ x ∧ x ≤ 9) {k : Nat} (hk : k < 6) (q : (x < 3 ∧ (k : Int) = x) ∨ (x = 4 ∧ k = 3) ∨ (x = 5 ∧ k = 4) ∨ (6 ≤ x ∧ (k = 5 ∨ (x < 9 ∧ (k : Int) = x - 6)))) : zw_tb (zt_nmb x) k := by
  have z := (zn_nbF ⟨x.toNat, by omega⟩ ⟨k, hk⟩).mpr
  have e : (((⟨x.toNat, by omega⟩ : Fin 10).val : Nat) : Int) = x := by show ((x.toNat : Nat) : Int) = x; omega
  rw [e] at z
  exact z (by show (x.toNat < 3 ∧ k = x.toNat) ∨ (x.toNat = 4 ∧ k = 3) ∨ (x.toNat = 5 ∧ k = 4) ∨ (6 ≤ x.toNat ∧ (k = 5 ∨ (x.toNat < 9 ∧ k + 6 = x.toNat))); omega)
/-- an operand's letters -/
theorem zn_nb_rc {x y : Int} (h : 0 ≤ x) (h2 : x ≤ 9 ∨ 16 ≤ x) (hy : 0 ≤ y ∧ y ≤ 8) (q : zn_rc (zt_rc x) (zn_z y)) : zw_tb (zt_nmb x) (zn_bi y).toNat := by
  have z := zn_z_b hy
  have e : zn_bi y = if y < 5 then y else 5 := rfl
  have b := (zn_bit_b hy).1
  by_cases c : 16 ≤ x
  · rw [(zt_rc_b x).1 c] at q
    unfold zn_rc at q
    omega
  · rw [(zt_rc_b x).2 c] at q
    unfold zn_rc at q
    refine zn_nb ⟨h, by omega⟩ (by omega) ?_
    rw [e]
    by_cases c5 : y < 5
    · rw [if_pos c5]; omega
    · rw [if_neg c5]; omega
section ZNB
variable {T L S V : Int → Int} {m : Int} {i : Nat}
theorem zn_tbo {a b : Int} (ha : 0 ≤ a ∧ a ≤ 127) (hb : 0 ≤ b ∧ b ≤ 127) (h : zw_tb a i ∨ zw_tb b i) : zw_tb (zq_or a b) i := (zw_tb_or (by omega) (by omega)).mpr h
theorem zn_nmF_b (hm : 0 ≤ m ∧ m ≤ 127) (hT : ∀ j, 0 ≤ T j ∧ T j ≤ 9) (hL : ∀ j, 0 ≤ L j ∧ (L j ≤ 9 ∨ 16 ≤ L j)) (hV : ∀ j, 0 ≤ V j ∧ (V j ≤ 9 ∨ 16 ≤ V j)) : ∀ k : Nat, (0 ≤ zt_nmF T L S V m k ∧ zt_nmF T L S V m k ≤ 127) ∧ ((zw_tb m i ∨ ∃ j : Int, 0 ≤ j ∧ j < k ∧ ((6 ≤ T j ∧ zw_tb (zt_nmb (T j - 6)) i) ∨ zw_tb (zt_nmb (L j)) i ∨ (S j ≠ 0 ∧ zw_tb (zt_nmb (V j)) i))) → zw_tb (zt_nmF T L S V m k) i) := by
  intro k
  induction k with
  | zero => exact ⟨hm, fun q => q.elim id (fun ⟨j, j0, j1, _⟩ => absurd j1 (by omega))⟩
  | succ k ih =>
    obtain ⟨b, f⟩ := ih
    have n := zu_nm1 (m := zt_nmF T L S V m k) (S := S k) b (hT k) (hL k).1 (hL k).2 (hV k).1 (hV k).2
    refine ⟨n.1, fun q => ?_⟩
    show zw_tb (zt_nm1 (zt_nmF T L S V m k) (T k) (L k) (S k) (V k)) i
    have bl := (zu_nmb (hL k).1 (hL k).2).1
    have bv := (zu_nmb (hV k).1 (hV k).2).1
    have bs : 0 ≤ (if S k = 0 then 0 else zt_nmb (V k)) ∧ (if S k = 0 then 0 else zt_nmb (V k)) ≤ 127 := by split <;> omega
    have ls := zr_or127 bl bs
    have ml := zr_or127 b ls
    have q2 : zw_tb (zt_nmF T L S V m k) i ∨ (6 ≤ T k ∧ zw_tb (zt_nmb (T k - 6)) i) ∨ zw_tb (zt_nmb (L k)) i ∨ (S k ≠ 0 ∧ zw_tb (zt_nmb (V k)) i) := by
      rcases q with q | ⟨j, j0, j1, q⟩
      · exact Or.inl (f (Or.inl q))
      · by_cases c : j = k
        · rw [c] at q; exact Or.inr q
        · exact Or.inl (f (Or.inr ⟨j, j0, by omega, q⟩))
    have core : (zw_tb (zt_nmF T L S V m k) i ∨ zw_tb (zt_nmb (L k)) i ∨ (S k ≠ 0 ∧ zw_tb (zt_nmb (V k)) i)) → zw_tb (zq_or (zt_nmF T L S V m k) (zq_or (zt_nmb (L k)) (if S k = 0 then 0 else zt_nmb (V k)))) i := fun z => by
      rcases z with z | z | ⟨z1, z2⟩
      · exact zn_tbo b ls (Or.inl z)
      · exact zn_tbo b ls (Or.inr (zn_tbo bl bs (Or.inl z)))
      · exact zn_tbo b ls (Or.inr (zn_tbo bl bs (Or.inr (by rw [if_neg z1]; exact z2))))
    unfold zt_nm1
    by_cases c : 6 ≤ T k
    · have bt := (zu_nmb (x := T k - 6) (by omega) (Or.inl (by have := hT k; omega))).1
      rw [if_pos c]
      rcases q2 with z | z | z | z
      · exact zn_tbo ml bt (Or.inl (core (Or.inl z)))
      · exact zn_tbo ml bt (Or.inr z.2)
      · exact zn_tbo ml bt (Or.inl (core (Or.inr (Or.inl z))))
      · exact zn_tbo ml bt (Or.inl (core (Or.inr (Or.inr z))))
    · rw [if_neg c]
      rcases q2 with z | z | z | z
      · exact core (Or.inl z)
      · exact absurd z.1 c
      · exact core (Or.inr (Or.inl z))
      · exact core (Or.inr (Or.inr z))
theorem zn_amF_b (hT : ∀ j, 0 ≤ T j ∧ T j ≤ 9) : ∀ k : Nat, (0 ≤ zt_amF T 0 k ∧ zt_amF T 0 k ≤ 127) ∧ ((∃ j : Int, 0 ≤ j ∧ j < k ∧ ((6 ≤ T j ∧ i = 5) ∨ (T j < 6 ∧ zw_tb (zt_nmb (T j)) i))) → zw_tb (zt_amF T 0 k) i) := by
  intro k
  induction k with
  | zero => exact ⟨⟨Int.le_refl (0 : Int), show (0 : Int) ≤ 127 by decide⟩, fun ⟨j, j0, j1, _⟩ => absurd j1 (by omega)⟩
  | succ k ih =>
    obtain ⟨b, f⟩ := ih
    have n := zu_am1 (m := zt_amF T 0 k) b (hT k)
    refine ⟨n.1, fun ⟨j, j0, j1, q⟩ => ?_⟩
    show zw_tb (zt_am1 (zt_amF T 0 k) (T k)) i
    have q2 : zw_tb (zt_amF T 0 k) i ∨ ((6 ≤ T k ∧ i = 5) ∨ (T k < 6 ∧ zw_tb (zt_nmb (T k)) i)) := by
      by_cases c : j = k
      · rw [c] at q; exact Or.inr q
      · exact Or.inl (f ⟨j, j0, by omega, q⟩)
    unfold zt_am1
    by_cases c : 6 ≤ T k
    · rw [if_pos c]
      rcases q2 with z | z | z
      · exact zn_tbo b (by decide) (Or.inl z)
      · exact zn_tbo b (by decide) (Or.inr ((zw_tb_2 5 (show (32 : Int) = ((2 ^ 5 : Nat) : Int) from rfl)).mpr z.2))
      · omega
    · have bt := (zu_nmb (x := T k) (hT k).1 (Or.inl (hT k).2)).1
      rw [if_neg c]
      rcases q2 with z | z | z
      · exact zn_tbo b bt (Or.inl z)
      · omega
      · exact zn_tbo b bt (Or.inr z.2)
end ZNB
/-- a store that is read is NAMED; one that is written is a TARGET -/
theorem zn_named {σ ρ : zq_S} {a o x : Int} (hσ : zc_T σ) (ka : zc_kd a = 4) (h : zu_ac σ ρ a o) (hx : 0 ≤ x ∧ x ≤ 8) (q : zn_rd (zw_ra σ a) 0 (σ a 4) (σ a 5) (σ a 6) (zn_z x)) : zq_and (σ a 12) (zn_bit x) ≠ 0 := by
  have z5 := zc_g4_5 hσ ka
  have z6 := zc_g4_6 hσ ka
  have hT : ∀ j, 0 ≤ σ (a + 2) j ∧ σ (a + 2) j ≤ 9 := fun j => zc_ga6 hσ (zc_p4_2 ka) j
  have hL : ∀ j, 0 ≤ σ (a + 3) j ∧ (σ (a + 3) j ≤ 9 ∨ 16 ≤ σ (a + 3) j) := fun j => by
    have z := zc_ga7 hσ (zc_p4_3 ka) j
    exact ⟨z.1, z.2.2⟩
  have hV : ∀ j, 0 ≤ σ (a + 5) j ∧ (σ (a + 5) j ≤ 9 ∨ 16 ≤ σ (a + 5) j) := fun j => by
    have z := zc_ga9 hσ (zc_p4_5 ka) j
    exact ⟨z.1, z.2.2⟩
  have bn := (zu_nmb (x := σ a 5) z5.1 (Or.inl z5.2)).1
  have hm : 0 ≤ (if σ a 4 = 0 then 0 else zq_or 0 (zt_nmb (σ a 5))) ∧ (if σ a 4 = 0 then 0 else zq_or 0 (zt_nmb (σ a 5))) ≤ 127 := by
    have o1 := zr_or127 (a := 0) (by decide) bn
    split <;> omega
  have bb := zn_bit_b hx
  have nf := zn_nmF_b (i := (zn_bi x).toNat) (S := σ (a + 4)) hm hT hL hV (σ a 6).toNat
  have e12 : σ a 12 = zt_nmF (σ (a + 2)) (σ (a + 3)) (σ (a + 4)) (σ (a + 5)) (if σ a 4 = 0 then 0 else zq_or 0 (zt_nmb (σ a 5))) (σ a 6).toNat := h.2.2.2.1
  rw [e12, zw_tb_and (by omega) (by omega)]
  refine ⟨(zn_bi x).toNat, by omega, nf.2 ?_, (bb.2 _).mpr (by omega)⟩
  rcases q with ⟨q1, q2⟩ | ⟨j, j0, j1, q⟩
  · refine Or.inl ?_
    rw [if_neg q1]
    refine zn_tbo (by decide) bn (Or.inr (zn_nb_rc z5.1 (Or.inl z5.2) hx ?_))
    rw [(zt_rc_b (σ a 5)).2 (by omega)]
    exact q2
  · refine Or.inr ⟨j, j0, by omega, ?_⟩
    unfold zn_rdA at q
    rw [zw_ra_0 (j := j) (by omega), zw_ra_1 (j := j) (by omega), zw_ra_3 (j := j) (by omega), zw_ra_4 (j := j) (by omega)] at q
    rcases q with q | q | ⟨q1, q2⟩
    · unfold zn_tc at q
      have t := hT j
      refine Or.inl ⟨q.1, zn_nb ⟨by omega, by omega⟩ (by omega) (Or.inl ⟨by omega, ?_⟩)⟩
      have z := zn_z_b hx
      have e : zn_bi x = if x < 5 then x else 5 := rfl
      by_cases c : x < 5
      · rw [if_pos c] at e; omega
      · rw [if_neg c] at e; omega
    · exact Or.inr (Or.inl (zn_nb_rc (hL j).1 (hL j).2 hx q))
    · refine Or.inr (Or.inr ⟨fun c => ?_, zn_nb_rc (hV j).1 (hV j).2 hx q2⟩)
      rw [c, zt_sn_0] at q1
      omega
theorem zn_aimed {σ ρ : zq_S} {a o x : Int} (hσ : zc_T σ) (ka : zc_kd a = 4) (h : zu_ac σ ρ a o) (hx : 0 ≤ x ∧ x ≤ 8) (q : zn_wr (zw_ra σ a) 0 (σ a 6) (zn_z x)) : zw_tb (σ a 13) (zn_bi x).toNat := by
  have z6 := zc_g4_6 hσ ka
  have hT : ∀ j, 0 ≤ σ (a + 2) j ∧ σ (a + 2) j ≤ 9 := fun j => zc_ga6 hσ (zc_p4_2 ka) j
  have af := zn_amF_b (i := (zn_bi x).toNat) hT (σ a 6).toNat
  have e13 : σ a 13 = zt_amF (σ (a + 2)) 0 (σ a 6).toNat := h.2.2.2.2
  have z := zn_z_b hx
  have bb := (zn_bit_b hx).1
  have e : zn_bi x = if x < 5 then x else 5 := rfl
  rw [e13]
  refine af.2 ?_
  obtain ⟨j, j0, j1, q⟩ := q
  rw [zw_ra_0 (j := j) (by omega)] at q
  have t := hT j
  refine ⟨j, j0, by omega, ?_⟩
  unfold zn_wc at q
  by_cases c : 6 ≤ σ (a + 2) j
  · refine Or.inl ⟨c, ?_⟩
    by_cases c5 : x < 5
    · rw [if_pos c5] at e; omega
    · rw [if_neg c5] at e; omega
  · refine Or.inr ⟨by omega, zn_nb t (by omega) ?_⟩
    by_cases c5 : x < 5
    · rw [if_pos c5] at e; omega
    · rw [if_neg c5] at e; omega
/-! what class and reference know -/
def zu_TN (σ ρ : zq_S) : Prop := σ 134 0 = 3 ∧ ∀ o, 0 ≤ o → o < ρ 0 3 → ((σ (σ 10 o) 15 = -1 ∨ σ (σ 10 o) 15 = zn_bs (zn_P (ρ 6) o (ρ 3 o) (ρ 4 o) (ρ 5 o)) 9) ∧ (σ (σ 10 o) 16 = -1 ∨ zn_Wm (ρ 6) o (ρ 3 o) (ρ 4 o) (ρ 5 o) (σ (σ 10 o) 16))) ∧ (ρ 8 o < 0 ∨ ρ 8 o = zn_bs (zn_P (ρ 6) o (ρ 3 o) (ρ 4 o) (ρ 5 o)) 9) ∧ (ρ 9 o < 0 ∨ zn_Wm (ρ 6) o (ρ 3 o) (ρ 4 o) (ρ 5 o) (ρ 9 o))
/-- what the class's calls want -/
def zn_OK (σ : zq_S) : Prop := σ 134 0 = 3 ∧ ∀ o, 0 ≤ o → o < σ 3 3 → zw_oo σ (σ 10 o) ∧ (σ (σ 10 o) 15 = -1 ∨ σ (σ 10 o) 15 = zn_bs (zn_P (zw_ra σ (σ 10 o)) 0 (σ (σ 10 o) 4) (σ (σ 10 o) 5) (σ (σ 10 o) 6)) 9) ∧ (σ (σ 10 o) 16 = -1 ∨ zn_Wm (zw_ra σ (σ 10 o)) 0 (σ (σ 10 o) 4) (σ (σ 10 o) 5) (σ (σ 10 o) 6) (σ (σ 10 o) 16)) ∧ (∀ x, 0 ≤ x → x ≤ 8 → zn_P (zw_ra σ (σ 10 o)) 0 (σ (σ 10 o) 4) (σ (σ 10 o) 5) (σ (σ 10 o) 6) x → zq_and (σ (σ 10 o) 12) (zn_bit x) ≠ 0) ∧ (∀ s, zn_st s → ∀ i : Nat, zn_cb (zw_ra σ (σ 10 o)) 0 (σ (σ 10 o) 4) (σ (σ 10 o) 5) (σ (σ 10 o) 6) s i → zw_tb (σ (σ 10 o) 13) i)
theorem zn_OK_mk {σ ρ : zq_S} (hσ : zc_T σ) (hρ : zx_T ρ) (hO : zx_O ρ) (hT3 : zu_T3 σ ρ) (h : zu_TN σ ρ) : zn_OK σ := by
  refine ⟨h.1, fun o o0 o1 => ?_⟩
  have e3 := hT3.1.1
  have z3 := zx_g3 hρ
  have o2 : o < ρ 0 3 := by omega
  have ka : zc_kd (σ 10 o) = 4 := zc_ga10 hσ zc_s10 o o0 (by omega)
  have hor := hT3.2.2.1 o o0 o2
  have lk := zn_Lk_sy (zn_or_Lk hρ (hO o o0 o2).1 hor)
  obtain ⟨⟨k1, k2⟩, -, -⟩ := h.2 o o0 o2
  have oo : zw_oo σ (σ 10 o) := (zs_og_mk hσ hρ (hO o o0 o2).2 ka hor (x := 0) (Int.le_refl 0) (by have := zx_p2_pos (ρ 0 2); omega)).1
  have gc := zn_g_c hσ ka oo
  refine ⟨oo, k1.imp id (fun z => z.trans (zn_Lk_bs lk)), k2.imp id (zn_Lk_Wm lk), fun x x0 x8 q => ?_, fun s hs i q => ?_⟩
  · exact zn_named hσ ka hor.2.2.1 ⟨x0, x8⟩ (Classical.byContradiction (fun c => zn_P_n gc ⟨x0, x8⟩ c q))
  · obtain ⟨x, x0, x8, bx, q⟩ := q
    have w : zn_wr (zw_ra σ (σ 10 o)) 0 (σ (σ 10 o) 6) (zn_z x) := Classical.byContradiction (fun c => q ((zn_do_w gc (zn_ok_st hs) c).trans (zn_row_z ⟨x0, x8⟩)))
    have z := zn_aimed hσ ka hor.2.2.1 ⟨x0, x8⟩ w
    rw [show (zn_bi x).toNat = i by omega] at z
    exact z
/-- orders that stay -/
theorem zu_TN_fr {σ τ ρ π : zq_S} (hρ : zx_T ρ) (hO : zx_O ρ) (hgg : zs_gg ρ) (h0 : τ 134 0 = σ 134 0) (o3 : π 0 3 ≤ ρ 0 3) (hc : ∀ o, 0 ≤ o → o < π 0 3 → τ (τ 10 o) 15 = σ (σ 10 o) 15 ∧ τ (τ 10 o) 16 = σ (σ 10 o) 16) (hr : ∀ o, 0 ≤ o → o < π 0 3 → π 3 o = ρ 3 o ∧ π 4 o = ρ 4 o ∧ π 5 o = ρ 5 o ∧ (∀ i, 18 * o ≤ i → i < 18 * o + 18 → π 6 i = ρ 6 i) ∧ π 8 o = ρ 8 o ∧ π 9 o = ρ 9 o) (h : zu_TN σ ρ) : zu_TN τ π := by
  refine ⟨by rw [h0]; exact h.1, fun o o0 o1 => ?_⟩
  obtain ⟨r3, r4, r5, r6, r8, r9⟩ := hr o o0 o1
  obtain ⟨c1, c2⟩ := hc o o0 o1
  have gr := zn_g_r hρ (hO o o0 (by omega)).1 (by by_cases c : ρ 3 o = 0; exact Or.inl c; exact Or.inr (hgg o o0 (by omega) c))
  have n3 := zx_ga5 hρ o
  have lk := zn_Lk_rows gr r6 n3.2
  obtain ⟨⟨k1, k2⟩, k3, k4⟩ := h.2 o o0 (by omega)
  rw [c1, c2, r3, r4, r5, r8, r9]
  exact ⟨⟨k1.imp id (fun z => z.trans (zn_Lk_bs (zn_Lk_sy lk))), k2.imp id (zn_Lk_Wm (zn_Lk_sy lk))⟩, k3.imp id (fun z => z.trans (zn_Lk_bs (zn_Lk_sy lk))), k4.imp id (zn_Lk_Wm (zn_Lk_sy lk))⟩
/-- an ORDER more -/
theorem zu_TN_add {σ τ ρ π : zq_S} {sp : Int} (hρ : zx_T ρ) (hO : zx_O ρ) (hgg : zs_gg ρ) (h0 : τ 134 0 = σ 134 0) (o3 : π 0 3 ≤ ρ 0 3 + 1) (hc : ∀ o, 0 ≤ o → o < ρ 0 3 → τ (τ 10 o) 15 = σ (σ 10 o) 15 ∧ τ (τ 10 o) 16 = σ (σ 10 o) 16) (hn : π 0 3 = ρ 0 3 + 1 → τ 10 (ρ 0 3) = sp ∧ τ sp 15 = -1 ∧ τ sp 16 = -1 ∧ π 8 (ρ 0 3) = -1 ∧ π 9 (ρ 0 3) = -1) (hr : ∀ o, 0 ≤ o → o < ρ 0 3 → π 3 o = ρ 3 o ∧ π 4 o = ρ 4 o ∧ π 5 o = ρ 5 o ∧ (∀ i, 18 * o ≤ i → i < 18 * o + 18 → π 6 i = ρ 6 i) ∧ π 8 o = ρ 8 o ∧ π 9 o = ρ 9 o) (h : zu_TN σ ρ) : zu_TN τ π := by
  have old := fun o o0 (o1 : o < ρ 0 3) => (zu_TN_fr (σ := σ) (τ := τ) (ρ := ρ) (π := fun a i => if a = 0 ∧ i = 3 then ρ 0 3 else π a i) hρ hO hgg h0 (Int.le_of_eq (if_pos ⟨rfl, rfl⟩)) (fun o o0 o1 => hc o o0 (by have z : (if (0 : Int) = 0 ∧ (3 : Int) = 3 then ρ 0 3 else π 0 3) = ρ 0 3 := if_pos ⟨rfl, rfl⟩; have o1 : o < (if (0 : Int) = 0 ∧ (3 : Int) = 3 then ρ 0 3 else π 0 3) := o1; omega)) (fun o o0 o1 => by
      have z : (if (0 : Int) = 0 ∧ (3 : Int) = 3 then ρ 0 3 else π 0 3) = ρ 0 3 := if_pos ⟨rfl, rfl⟩
      have o1 : o < (if (0 : Int) = 0 ∧ (3 : Int) = 3 then ρ 0 3 else π 0 3) := o1
      exact hr o o0 (by omega)) h).2 o o0 (by show o < (if (0 : Int) = 0 ∧ (3 : Int) = 3 then ρ 0 3 else π 0 3); rw [if_pos ⟨rfl, rfl⟩]; exact o1)
  refine ⟨by rw [h0]; exact h.1, fun o o0 o1 => ?_⟩
  by_cases c : o < ρ 0 3
  · exact old o o0 c
  · have e : o = ρ 0 3 := by omega
    obtain ⟨n1, n2, n3, n4, n5⟩ := hn (by omega)
    rw [e, n1]
    exact ⟨⟨Or.inl n2, Or.inl n3⟩, Or.inl (by omega), Or.inl (by omega)⟩
