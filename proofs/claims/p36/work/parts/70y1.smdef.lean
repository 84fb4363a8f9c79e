/-! ===== sums: how they are read ===== -/
def zs_add (G : zq_S) (K W L R : Int) : zq_S := zq_up (zq_up (zq_up (zq_up (zq_up G 25 (G 0 43) K) 26 (G 0 43) W) 27 (G 0 43) L) 28 (G 0 43) R) 0 43 (G 0 43 + 1)
/-- a word hangs at its level -/
def zs_hg (G : zq_S) (d x : Int) : zq_S := if G 29 d < 0 then zq_up G 29 d x else zq_up (zs_add G 2 (G 30 d) (G 29 d) x) 29 d (G 0 43)
def zs_0 (G : zq_S) : zq_S := zq_up (zq_up (zq_up (zq_up G 0 15 0) 0 43 0) 0 44 0) 29 0 (-1)
section ZS
variable (t : Int → Int) (n v m : Int)
def zs_op (G : zq_S) (d : Int) : zq_S := zq_up (zq_up G 0 15 (zt_sk t n (G 0 15) + 1)) 29 (d + 1) (-1)
def zs_va (G : zq_S) : zq_S := zs_add (zq_up (zq_up G 0 15 (zt_sk t n (G 0 15) + 1)) 0 44 (G 0 44 + 1)) 0 (zt_nx t n (G 0 15) - 97) 0 0
def zs_li (G : zq_S) : zq_S := zs_add (zq_up (zq_up G 0 15 (zt_nuA t n 255 (G 0 15))) 0 44 (G 0 44 + 1)) 1 (zq_and (zt_nuR t n 255 (G 0 15)) m) 0 0
def zs_sg (G : zq_S) (d x : Int) : zq_S := zq_up (zq_up (zs_hg G d x) 0 15 (zt_sk t n (G 0 15) + 1)) 30 d (zt_sn (zt_nx t n (G 0 15)))
def zs_cl (G : zq_S) (d x : Int) : zq_S := zq_up (zs_hg G d x) 0 15 (zt_sk t n (G 0 15) + 1)
def zs_en (G : zq_S) (d x : Int) : zq_S := zq_up (zs_hg G d x) 0 15 (zt_sk t n (G 0 15))
def zs_fa (G : zq_S) : zq_S := zq_up G 0 15 (zt_sk t n (G 0 15))
def zs_run : Nat → Int → Int → Int → zq_S → Int × zq_S
  | 0, _, _, _, G => (0, G)
  | k + 1, ph, d, x, G =>
    if ph = 0 then
      if zt_nx t n (G 0 15) = 40 then (if d = 6 then (0, zs_fa t n G) else zs_run k 0 (d + 1) 0 (zs_op t n G d))
      else if 20 ≤ G 0 44 then (0, zs_fa t n G)
      else if 97 ≤ zt_nx t n (G 0 15) ∧ zt_nx t n (G 0 15) < 97 + v then zs_run k 1 d (G 0 43) (zs_va t n G)
      else if 0 ≤ zt_nuR t n 255 (G 0 15) then zs_run k 1 d (G 0 43) (zs_li t n m G)
      else (0, zs_fa t n G)
    else
      if 0 < zt_sn (zt_nx t n (G 0 15)) then zs_run k 0 d 0 (zs_sg t n G d x)
      else if zt_nx t n (G 0 15) = 41 ∧ 0 < d then zs_run k 1 (d - 1) (zs_hg G d x 29 d) (zs_cl t n G d x)
      else (if zt_nx t n (G 0 15) = -1 ∧ d = 0 then 1 else 0, zs_en t n G d x)
end ZS
/-- the cells that a reading rests on, its place aside -/
def zs_in (a i : Int) : Prop := (a = 0 ∧ (i = 43 ∨ i = 44)) ∨ (25 ≤ a ∧ a ≤ 30)
def zs_q (G H : zq_S) : Prop := ∀ a i, zs_in a i → G a i = H a i
theorem zs_q_rf (G : zq_S) : zs_q G G := fun _ _ _ => rfl
theorem zs_q_tr {G H I : zq_S} (h : zs_q G H) (k : zs_q H I) : zs_q G I := fun a i q => (h a i q).trans (k a i q)
theorem zs_q_sy {G H : zq_S} (h : zs_q G H) : zs_q H G := fun a i q => (h a i q).symm
theorem zs_q_up {G H : zq_S} (h : zs_q G H) (a i v : Int) : zs_q (zq_up G a i v) (zq_up H a i v) := fun x y hx => by
  by_cases hc : x = a ∧ y = i
  · obtain ⟨rfl, rfl⟩ := hc
    rw [zq_up_same, zq_up_same]
  · rw [zq_up_ne hc, zq_up_ne hc]
    exact h x y hx
theorem zs_q_ps (G : zq_S) (p : Int) : zs_q (zq_up G 0 15 p) G := fun x y hx => zq_up_ne (by unfold zs_in at hx; omega)
theorem zs_q_43 {G H : zq_S} (h : zs_q G H) : G 0 43 = H 0 43 := h 0 43 (Or.inl ⟨rfl, Or.inl rfl⟩)
theorem zs_q_44 {G H : zq_S} (h : zs_q G H) : G 0 44 = H 0 44 := h 0 44 (Or.inl ⟨rfl, Or.inr rfl⟩)
theorem zs_q_ar {G H : zq_S} (h : zs_q G H) {a : Int} (ha : 25 ≤ a ∧ a ≤ 30) (i : Int) : G a i = H a i := h a i (Or.inr ha)
theorem zs_q_add {G H : zq_S} (h : zs_q G H) (K W L R : Int) : zs_q (zs_add G K W L R) (zs_add H K W L R) := by
  unfold zs_add
  rw [zs_q_43 h]
  exact zs_q_up (zs_q_up (zs_q_up (zs_q_up (zs_q_up h _ _ _) _ _ _) _ _ _) _ _ _) _ _ _
theorem zs_q_hg {G H : zq_S} (h : zs_q G H) (d x : Int) : zs_q (zs_hg G d x) (zs_hg H d x) := by
  unfold zs_hg
  rw [zs_q_ar h (a := 29) (by omega) d, zs_q_ar h (a := 30) (by omega) d, zs_q_43 h]
  by_cases c : H 29 d < 0
  · rw [if_pos c, if_pos c]
    exact zs_q_up h _ _ _
  · rw [if_neg c, if_neg c]
    exact zs_q_up (zs_q_add h _ _ _ _) _ _ _
theorem zs_add_o {G : zq_S} {K W L R a i : Int} (h : ¬ (25 ≤ a ∧ a ≤ 28)) (h2 : ¬ (a = 0 ∧ i = 43)) : zs_add G K W L R a i = G a i := by
  unfold zs_add
  rw [zq_up_ne h2, zq_up_ne (by omega), zq_up_ne (by omega), zq_up_ne (by omega), zq_up_ne (by omega)]
theorem zs_add_n (G : zq_S) (K W L R : Int) : zs_add G K W L R 0 43 = G 0 43 + 1 := by
  unfold zs_add
  rw [zq_up_same]
theorem zs_add_e {G : zq_S} {K W L R a i : Int} (h : i ≠ G 0 43) (ha : 25 ≤ a) : zs_add G K W L R a i = G a i := by
  unfold zs_add
  rw [zq_up_ne (by omega), zq_up_ne (by omega), zq_up_ne (by omega), zq_up_ne (by omega), zq_up_ne (by omega)]
theorem zs_add_25 (G : zq_S) (K W L R : Int) : zs_add G K W L R 25 (G 0 43) = K := by
  unfold zs_add
  rw [zq_up_ne (by omega), zq_up_ne (by omega), zq_up_ne (by omega), zq_up_ne (by omega), zq_up_same]
theorem zs_add_26 (G : zq_S) (K W L R : Int) : zs_add G K W L R 26 (G 0 43) = W := by
  unfold zs_add
  rw [zq_up_ne (by omega), zq_up_ne (by omega), zq_up_ne (by omega), zq_up_same]
theorem zs_add_27 (G : zq_S) (K W L R : Int) : zs_add G K W L R 27 (G 0 43) = L := by
  unfold zs_add
  rw [zq_up_ne (by omega), zq_up_ne (by omega), zq_up_same]
theorem zs_add_28 (G : zq_S) (K W L R : Int) : zs_add G K W L R 28 (G 0 43) = R := by
  unfold zs_add
  rw [zq_up_ne (by omega), zq_up_same]
theorem zs_hg_y {G : zq_S} {d : Int} (x : Int) (h : G 29 d < 0) : zs_hg G d x = zq_up G 29 d x := if_pos h
theorem zs_hg_n {G : zq_S} {d : Int} (x : Int) (h : ¬ G 29 d < 0) : zs_hg G d x = zq_up (zs_add G 2 (G 30 d) (G 29 d) x) 29 d (G 0 43) := if_neg h
theorem zs_hg_p (G : zq_S) (d x : Int) : zs_hg G d x 0 15 = G 0 15 := by
  by_cases c : G 29 d < 0
  · rw [zs_hg_y x c, zq_up_ne (by omega)]
  · rw [zs_hg_n x c, zq_up_ne (by omega), zs_add_o (by omega) (by omega)]
theorem zt_nx_c {t : Int → Int} {n a b : Int} (h : zt_sk t n a = zt_sk t n b) : zt_nx t n a = zt_nx t n b := by rw [← zt_nx_i t n a, h, zt_nx_i]
theorem zt_nu_c {t : Int → Int} {n a b : Int} (m : Int) (h : zt_sk t n a = zt_sk t n b) : zt_nuR t n m a = zt_nuR t n m b ∧ zt_nuA t n m a = zt_nuA t n m b := by
  rw [← (zt_nu_i t n m a).1, ← (zt_nu_i t n m a).2, h, (zt_nu_i t n m b).1, (zt_nu_i t n m b).2]
  exact ⟨rfl, rfl⟩
theorem zt_nu_adv {t : Int → Int} {n m a : Int} (h : 0 ≤ zt_nuR t n m a) (ha : a ≤ n) : a < zt_nuA t n m a ∧ zt_nuA t n m a ≤ n := by
  by_cases c : 48 ≤ zt_nx t n a ∧ zt_nx t n a ≤ 57 ∧ zt_dv t (zt_sk t n a) (zt_de t n (zt_sk t n a)) ≤ m
  · obtain ⟨s1, s2⟩ := zt_nx_in (t := t) (n := n) (a := a) (by omega)
    have s3 := zt_sk_b (t := t) ha
    rw [(zt_nu_y c).2, zt_de_y ⟨s1, by omega⟩]
    have b := zt_rn_b (p := fun i => decide (48 ≤ t i ∧ t i ≤ 57)) (n := n) (a := zt_sk t n a + 1) (by omega)
    have b' : zt_sk t n a + 1 ≤ zt_de t n (zt_sk t n a + 1) ∧ zt_de t n (zt_sk t n a + 1) ≤ n := b
    omega
  · have := (zt_nu_n c).1
    omega
section ZSP
variable {t : Int → Int} {n v m : Int}
/-- from here on the reading is Z -/
def zs_P (t : Int → Int) (n v m : Int) (ph d x : Int) (G : zq_S) (Z : Int × zq_S) : Prop := ∃ (k : Nat) (H : zq_S), zs_q G H ∧ zt_sk t n (G 0 15) = zt_sk t n (H 0 15) ∧ H 0 15 ≤ n ∧ n + 1 ≤ H 0 15 + (k : Int) ∧ zs_run t n v m k ph d x H = Z
theorem zs_P_0 {G : zq_S} (h : G 0 15 = 0) (h0 : 0 ≤ n) (h1 : n ≤ 80) : zs_P t n v m 0 0 0 G (zs_run t n v m 100 0 0 0 G) := ⟨100, G, zs_q_rf G, rfl, by omega, by omega, rfl⟩
theorem zs_P_go {ph d x ph' d' x' : Int} {G G' : zq_S} {Z : Int × zq_S} (f : zq_S → zq_S) (h : zs_P t n v m ph d x G Z) (hf : ∀ H, zs_q G H → zt_sk t n (G 0 15) = zt_sk t n (H 0 15) → H 0 15 ≤ n → (∀ k, zs_run t n v m (k + 1) ph d x H = zs_run t n v m k ph' d' x' (f H)) ∧ H 0 15 < f H 0 15 ∧ f H 0 15 ≤ n ∧ zs_q G' (f H) ∧ zt_sk t n (G' 0 15) = zt_sk t n (f H 0 15)) : zs_P t n v m ph' d' x' G' Z := by
  obtain ⟨k, H, hq, hs, hb, hk, e⟩ := h
  obtain ⟨j, rfl⟩ : ∃ j, k = j + 1 := ⟨k - 1, by omega⟩
  obtain ⟨f1, f2, f3, f4, f5⟩ := hf H hq hs hb
  exact ⟨j, f H, f4, f5, f3, by omega, by rw [← f1]; exact e⟩
theorem zs_P_no {ph d x r : Int} {G : zq_S} {Z : Int × zq_S} (f : zq_S → zq_S) (h : zs_P t n v m ph d x G Z) (hf : ∀ H, zs_q G H → zt_sk t n (G 0 15) = zt_sk t n (H 0 15) → ∀ k, zs_run t n v m (k + 1) ph d x H = (r, f H)) : ∃ H, zs_q G H ∧ zt_sk t n (G 0 15) = zt_sk t n (H 0 15) ∧ Z = (r, f H) := by
  obtain ⟨k, H, hq, hs, hb, hk, e⟩ := h
  obtain ⟨j, rfl⟩ : ∃ j, k = j + 1 := ⟨k - 1, by omega⟩
  exact ⟨H, hq, hs, by rw [← hf H hq hs j]; exact e.symm⟩
theorem zs_op_p (t : Int → Int) (n : Int) (G : zq_S) (d : Int) : zs_op t n G d 0 15 = zt_sk t n (G 0 15) + 1 := by unfold zs_op; rw [zq_up_ne (by omega), zq_up_same]
theorem zs_va_p (t : Int → Int) (n : Int) (G : zq_S) : zs_va t n G 0 15 = zt_sk t n (G 0 15) + 1 := by unfold zs_va; rw [zs_add_o (by omega) (by omega), zq_up_ne (by omega), zq_up_same]
theorem zs_li_p (t : Int → Int) (n m : Int) (G : zq_S) : zs_li t n m G 0 15 = zt_nuA t n 255 (G 0 15) := by unfold zs_li; rw [zs_add_o (by omega) (by omega), zq_up_ne (by omega), zq_up_same]
theorem zs_sg_p (t : Int → Int) (n : Int) (G : zq_S) (d x : Int) : zs_sg t n G d x 0 15 = zt_sk t n (G 0 15) + 1 := by unfold zs_sg; rw [zq_up_ne (by omega), zq_up_same]
theorem zs_cl_p (t : Int → Int) (n : Int) (G : zq_S) (d x : Int) : zs_cl t n G d x 0 15 = zt_sk t n (G 0 15) + 1 := by unfold zs_cl; rw [zq_up_same]
theorem zs_run_op {k : Nat} {d x : Int} {H : zq_S} (h : zt_nx t n (H 0 15) = 40) (hd : d ≠ 6) : zs_run t n v m (k + 1) 0 d x H = zs_run t n v m k 0 (d + 1) 0 (zs_op t n H d) := by
  rw [zs_run, if_pos rfl, if_pos h, if_neg hd]
theorem zs_run_va {k : Nat} {d x : Int} {H : zq_S} (h : zt_nx t n (H 0 15) ≠ 40) (hl : ¬ 20 ≤ H 0 44) (hv : 97 ≤ zt_nx t n (H 0 15) ∧ zt_nx t n (H 0 15) < 97 + v) : zs_run t n v m (k + 1) 0 d x H = zs_run t n v m k 1 d (H 0 43) (zs_va t n H) := by
  rw [zs_run, if_pos rfl, if_neg h, if_neg hl, if_pos hv]
theorem zs_run_li {k : Nat} {d x : Int} {H : zq_S} (h : zt_nx t n (H 0 15) ≠ 40) (hl : ¬ 20 ≤ H 0 44) (hv : ¬ (97 ≤ zt_nx t n (H 0 15) ∧ zt_nx t n (H 0 15) < 97 + v)) (hu : 0 ≤ zt_nuR t n 255 (H 0 15)) : zs_run t n v m (k + 1) 0 d x H = zs_run t n v m k 1 d (H 0 43) (zs_li t n m H) := by
  rw [zs_run, if_pos rfl, if_neg h, if_neg hl, if_neg hv, if_pos hu]
theorem zs_run_fa {k : Nat} {d x : Int} {H : zq_S} (h : (zt_nx t n (H 0 15) = 40 ∧ d = 6) ∨ (zt_nx t n (H 0 15) ≠ 40 ∧ (20 ≤ H 0 44 ∨ (¬ (97 ≤ zt_nx t n (H 0 15) ∧ zt_nx t n (H 0 15) < 97 + v) ∧ zt_nuR t n 255 (H 0 15) < 0)))) : zs_run t n v m (k + 1) 0 d x H = (0, zs_fa t n H) := by
  rw [zs_run, if_pos rfl]
  rcases h with ⟨a, b⟩ | ⟨a, b | ⟨b, c⟩⟩
  · rw [if_pos a, if_pos b]
  · rw [if_neg a, if_pos b]
  · rw [if_neg a]
    by_cases l : 20 ≤ H 0 44
    · rw [if_pos l]
    · rw [if_neg l, if_neg b, if_neg (by omega)]
theorem zs_run_sg {k : Nat} {d x : Int} {H : zq_S} (h : 0 < zt_sn (zt_nx t n (H 0 15))) : zs_run t n v m (k + 1) 1 d x H = zs_run t n v m k 0 d 0 (zs_sg t n H d x) := by
  rw [zs_run, if_neg (by omega), if_pos h]
theorem zs_run_cl {k : Nat} {d x : Int} {H : zq_S} (h : zt_nx t n (H 0 15) = 41) (hd : 0 < d) : zs_run t n v m (k + 1) 1 d x H = zs_run t n v m k 1 (d - 1) (zs_hg H d x 29 d) (zs_cl t n H d x) := by
  have hs := zt_sn_b (zt_nx t n (H 0 15))
  rw [zs_run, if_neg (by omega), if_neg (by omega), if_pos ⟨h, hd⟩]
theorem zs_run_en {k : Nat} {d x : Int} {H : zq_S} (h : zt_sn (zt_nx t n (H 0 15)) = 0) (hd : ¬ (zt_nx t n (H 0 15) = 41 ∧ 0 < d)) : zs_run t n v m (k + 1) 1 d x H = (if zt_nx t n (H 0 15) = -1 ∧ d = 0 then 1 else 0, zs_en t n H d x) := by
  rw [zs_run, if_neg (by omega), if_neg (by omega), if_neg hd]
theorem zs_P_op {d x : Int} {G G' : zq_S} {Z : Int × zq_S} (h : zs_P t n v m 0 d x G Z) (hc : zt_nx t n (G 0 15) = 40) (hd : d ≠ 6) (hG : zs_q G' (zs_op t n G d)) (hp : zt_sk t n (G' 0 15) = zt_sk t n (zt_sk t n (G 0 15) + 1)) : zs_P t n v m 0 (d + 1) 0 G' Z := by
  refine zs_P_go (fun H => zs_op t n H d) h (fun H hq hs hb => ?_)
  have hn := zt_nx_c hs
  have hi := zt_nx_in (t := t) (n := n) (a := H 0 15) (by omega)
  have hk := zt_sk_b (t := t) hb
  refine ⟨fun k => zs_run_op (by omega) hd, ?_, ?_, zs_q_tr hG ?_, ?_⟩
  · show H 0 15 < zs_op t n H d 0 15
    rw [zs_op_p]; omega
  · show zs_op t n H d 0 15 ≤ n
    rw [zs_op_p]; omega
  · show zs_q (zs_op t n G d) (zs_op t n H d)
    unfold zs_op
    rw [hs]
    exact zs_q_up (zs_q_up hq _ _ _) _ _ _
  · show _ = zt_sk t n (zs_op t n H d 0 15)
    rw [zs_op_p, ← hs]; exact hp
theorem zs_P_va {d x : Int} {G G' : zq_S} {Z : Int × zq_S} (h : zs_P t n v m 0 d x G Z) (hc : zt_nx t n (G 0 15) ≠ 40) (hl : G 0 44 < 20) (hv : 97 ≤ zt_nx t n (G 0 15) ∧ zt_nx t n (G 0 15) < 97 + v) (hG : zs_q G' (zs_va t n G)) (hp : zt_sk t n (G' 0 15) = zt_sk t n (zt_sk t n (G 0 15) + 1)) : zs_P t n v m 1 d (G 0 43) G' Z := by
  refine zs_P_go (fun H => zs_va t n H) h (fun H hq hs hb => ?_)
  have hn := zt_nx_c hs
  have h43 := zs_q_43 hq
  have h44 := zs_q_44 hq
  have hi := zt_nx_in (t := t) (n := n) (a := H 0 15) (by omega)
  have hk := zt_sk_b (t := t) hb
  refine ⟨fun k => by rw [h43]; exact zs_run_va (by omega) (by omega) (by omega), ?_, ?_, zs_q_tr hG ?_, ?_⟩
  · show H 0 15 < zs_va t n H 0 15
    rw [zs_va_p]; omega
  · show zs_va t n H 0 15 ≤ n
    rw [zs_va_p]; omega
  · show zs_q (zs_va t n G) (zs_va t n H)
    unfold zs_va
    rw [hs, hn, h44]
    exact zs_q_add (zs_q_up (zs_q_up hq _ _ _) _ _ _) _ _ _ _
  · show _ = zt_sk t n (zs_va t n H 0 15)
    rw [zs_va_p, ← hs]; exact hp
theorem zs_P_li {d x : Int} {G G' : zq_S} {Z : Int × zq_S} (h : zs_P t n v m 0 d x G Z) (hc : zt_nx t n (G 0 15) ≠ 40) (hl : G 0 44 < 20) (hv : ¬ (97 ≤ zt_nx t n (G 0 15) ∧ zt_nx t n (G 0 15) < 97 + v)) (hu : 0 ≤ zt_nuR t n 255 (G 0 15)) (hG : zs_q G' (zs_li t n m G)) (hp : zt_sk t n (G' 0 15) = zt_sk t n (zt_nuA t n 255 (G 0 15))) : zs_P t n v m 1 d (G 0 43) G' Z := by
  refine zs_P_go (fun H => zs_li t n m H) h (fun H hq hs hb => ?_)
  have hn := zt_nx_c hs
  obtain ⟨u1, u2⟩ := zt_nu_c 255 hs
  have h43 := zs_q_43 hq
  have h44 := zs_q_44 hq
  have hk := zt_nu_adv (t := t) (n := n) (m := 255) (a := H 0 15) (by omega) hb
  refine ⟨fun k => by rw [h43]; exact zs_run_li (by omega) (by omega) (by omega) (by omega), ?_, ?_, zs_q_tr hG ?_, ?_⟩
  · show H 0 15 < zs_li t n m H 0 15
    rw [zs_li_p]; omega
  · show zs_li t n m H 0 15 ≤ n
    rw [zs_li_p]; omega
  · show zs_q (zs_li t n m G) (zs_li t n m H)
    unfold zs_li
    rw [u1, u2, h44]
    exact zs_q_add (zs_q_up (zs_q_up hq _ _ _) _ _ _) _ _ _ _
  · show _ = zt_sk t n (zs_li t n m H 0 15)
    rw [zs_li_p, ← u2]; exact hp
theorem zs_P_fa {d x : Int} {G : zq_S} {Z : Int × zq_S} (h : zs_P t n v m 0 d x G Z) (hc : (zt_nx t n (G 0 15) = 40 ∧ d = 6) ∨ (zt_nx t n (G 0 15) ≠ 40 ∧ (20 ≤ G 0 44 ∨ (¬ (97 ≤ zt_nx t n (G 0 15) ∧ zt_nx t n (G 0 15) < 97 + v) ∧ zt_nuR t n 255 (G 0 15) < 0)))) : Z.1 = 0 ∧ Z.2 0 15 = zt_sk t n (G 0 15) := by
  obtain ⟨H, hq, hs, e⟩ := zs_P_no (r := 0) (fun H => zs_fa t n H) h (fun H hq hs k => zs_run_fa (by rw [← zt_nx_c hs, ← (zt_nu_c 255 hs).1, ← zs_q_44 hq]; exact hc))
  rw [e]
  refine ⟨rfl, ?_⟩
  show zs_fa t n H 0 15 = _
  unfold zs_fa
  rw [zq_up_same, hs]
theorem zs_P_sg {d x : Int} {G G' : zq_S} {Z : Int × zq_S} (h : zs_P t n v m 1 d x G Z) (hc : 0 < zt_sn (zt_nx t n (G 0 15))) (hG : zs_q G' (zs_sg t n G d x)) (hp : zt_sk t n (G' 0 15) = zt_sk t n (zt_sk t n (G 0 15) + 1)) : zs_P t n v m 0 d 0 G' Z := by
  refine zs_P_go (fun H => zs_sg t n H d x) h (fun H hq hs hb => ?_)
  have hn := zt_nx_c hs
  have hb2 := zt_sn_b (zt_nx t n (G 0 15))
  have hi := zt_nx_in (t := t) (n := n) (a := H 0 15) (by omega)
  have hk := zt_sk_b (t := t) hb
  refine ⟨fun k => zs_run_sg (by rw [← hn]; exact hc), ?_, ?_, zs_q_tr hG ?_, ?_⟩
  · show H 0 15 < zs_sg t n H d x 0 15
    rw [zs_sg_p]; omega
  · show zs_sg t n H d x 0 15 ≤ n
    rw [zs_sg_p]; omega
  · show zs_q (zs_sg t n G d x) (zs_sg t n H d x)
    unfold zs_sg
    rw [hs, hn]
    exact zs_q_up (zs_q_up (zs_q_hg hq _ _) _ _ _) _ _ _
  · show _ = zt_sk t n (zs_sg t n H d x 0 15)
    rw [zs_sg_p, ← hs]; exact hp
theorem zs_P_cl {d x : Int} {G G' : zq_S} {Z : Int × zq_S} (h : zs_P t n v m 1 d x G Z) (hc : zt_nx t n (G 0 15) = 41) (hd : 0 < d) (hG : zs_q G' (zs_cl t n G d x)) (hp : zt_sk t n (G' 0 15) = zt_sk t n (zt_sk t n (G 0 15) + 1)) : zs_P t n v m 1 (d - 1) (zs_hg G d x 29 d) G' Z := by
  refine zs_P_go (fun H => zs_cl t n H d x) h (fun H hq hs hb => ?_)
  have hn := zt_nx_c hs
  have hi := zt_nx_in (t := t) (n := n) (a := H 0 15) (by omega)
  have hk := zt_sk_b (t := t) hb
  refine ⟨fun k => by rw [zs_q_ar (zs_q_hg hq d x) (a := 29) (by omega) d]; exact zs_run_cl (by omega) hd, ?_, ?_, zs_q_tr hG ?_, ?_⟩
  · show H 0 15 < zs_cl t n H d x 0 15
    rw [zs_cl_p]; omega
  · show zs_cl t n H d x 0 15 ≤ n
    rw [zs_cl_p]; omega
  · show zs_q (zs_cl t n G d x) (zs_cl t n H d x)
    unfold zs_cl
    rw [hs]
    exact zs_q_up (zs_q_hg hq _ _) _ _ _
  · show _ = zt_sk t n (zs_cl t n H d x 0 15)
    rw [zs_cl_p, ← hs]; exact hp
theorem zs_P_en {d x : Int} {G : zq_S} {Z : Int × zq_S} (h : zs_P t n v m 1 d x G Z) (hc : zt_sn (zt_nx t n (G 0 15)) = 0) (hd : ¬ (zt_nx t n (G 0 15) = 41 ∧ 0 < d)) : Z.1 = (if zt_nx t n (G 0 15) = -1 ∧ d = 0 then 1 else 0) ∧ Z.2 0 15 = zt_sk t n (G 0 15) ∧ zs_q Z.2 (zs_hg G d x) := by
  obtain ⟨H, hq, hs, e⟩ := zs_P_no (r := if zt_nx t n (G 0 15) = -1 ∧ d = 0 then 1 else 0) (fun H => zs_en t n H d x) h (fun H hq hs k => by have hn := zt_nx_c hs; rw [hn] at hc hd ⊢; exact zs_run_en hc hd)
  rw [e]
  refine ⟨rfl, ?_, ?_⟩
  · show zs_en t n H d x 0 15 = _
    unfold zs_en
    rw [zq_up_same, hs]
  · show zs_q (zs_en t n H d x) _
    unfold zs_en
    exact zs_q_tr (zs_q_ps _ _) (zs_q_sy (zs_q_hg hq _ _))
end ZSP

