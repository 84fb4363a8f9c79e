/-! ===== what is written, byte by byte ===== -/
def zu_w1 (s : Int × (Int → Int)) (c : Int) : Int × (Int → Int) := (s.1 + 1, fun j => if j = s.1 then c else s.2 j)
def zu_nmF (P : Int → Bool) (B : Int → Int) (s : Int × (Int → Int)) : Nat → Int × (Int → Int)
  | 0 => s
  | k + 1 => if P k = true then zu_w1 (zu_nmF P B s k) (B k) else zu_nmF P B s k
def zu_nmw (P : Int → Bool) (B : Int → Int) (s : Int × (Int → Int)) (k : Int) : Int × (Int → Int) := zu_nmF P B s k.toNat
theorem zu_nmw_z (P : Int → Bool) (B : Int → Int) (s : Int × (Int → Int)) : zu_nmw P B s 0 = s := rfl
theorem zu_nmw_y {P : Int → Bool} {B : Int → Int} {s : Int × (Int → Int)} {k : Int} (h : 0 ≤ k) (hp : P k = true) : zu_nmw P B s (k + 1) = zu_w1 (zu_nmw P B s k) (B k) := by
  obtain ⟨j, rfl⟩ := Int.eq_ofNat_of_zero_le h
  show (if P j = true then zu_w1 (zu_nmF P B s j) (B j) else zu_nmF P B s j) = _
  rw [if_pos hp]
  rfl
theorem zu_nmw_n {P : Int → Bool} {B : Int → Int} {s : Int × (Int → Int)} {k : Int} (h : 0 ≤ k) (hp : ¬ P k = true) : zu_nmw P B s (k + 1) = zu_nmw P B s k := by
  obtain ⟨j, rfl⟩ := Int.eq_ofNat_of_zero_le h
  show (if P j = true then zu_w1 (zu_nmF P B s j) (B j) else zu_nmF P B s j) = _
  rw [if_neg hp]
  rfl
def zu_wa (v : Int) (s : Int × (Int → Int)) : Int × (Int → Int) := if 100 ≤ v then zu_w1 s (48 + zq_div v 100) else s
def zu_wc (v : Int) (s : Int × (Int → Int)) : Int × (Int → Int) := if 10 ≤ v then zu_w1 (zu_wa v s) (48 + zq_rem (zq_div v 10) 10) else zu_wa v s
/-- a number -/
def zu_wn (v : Int) (s : Int × (Int → Int)) : Int × (Int → Int) := zu_w1 (zu_wc v s) (48 + zq_rem v 10)
theorem zu_wa_y {v : Int} {s : Int × (Int → Int)} (h : 100 ≤ v) : zu_wa v s = zu_w1 s (48 + zq_div v 100) := if_pos h
theorem zu_wa_n {v : Int} {s : Int × (Int → Int)} (h : ¬ 100 ≤ v) : zu_wa v s = s := if_neg h
theorem zu_wc_y {v : Int} {s : Int × (Int → Int)} (h : 10 ≤ v) : zu_wc v s = zu_w1 (zu_wa v s) (48 + zq_rem (zq_div v 10) 10) := if_pos h
theorem zu_wc_n {v : Int} {s : Int × (Int → Int)} (h : ¬ 10 ≤ v) : zu_wc v s = zu_wa v s := if_neg h
def zu_anF (H : Int → Bool) : Nat → Bool
  | 0 => false
  | k + 1 => zu_anF H k || H k
/-- was there one? -/
def zu_an (H : Int → Bool) (k : Int) : Bool := zu_anF H k.toNat
def zu_sep (H : Int → Bool) (k : Int) : Int := if zu_an H k = true then 44 else 32
theorem zu_sep_z (H : Int → Bool) : zu_sep H 0 = 32 := rfl
theorem zu_sep_y {H : Int → Bool} {k : Int} (h : 0 ≤ k) (hp : H k = true) : zu_sep H (k + 1) = 44 := by
  obtain ⟨j, rfl⟩ := Int.eq_ofNat_of_zero_le h
  have e : zu_an H ((j : Int) + 1) = (zu_anF H j || H j) := rfl
  unfold zu_sep
  rw [e, hp, Bool.or_true]
  rfl
theorem zu_sep_n {H : Int → Bool} {k : Int} (h : 0 ≤ k) (hp : ¬ H k = true) : zu_sep H (k + 1) = zu_sep H k := by
  obtain ⟨j, rfl⟩ := Int.eq_ofNat_of_zero_le h
  have e : zu_an H ((j : Int) + 1) = (zu_anF H j || H j) := rfl
  unfold zu_sep
  rw [e, Bool.eq_false_iff.mpr hp, Bool.or_false]
  rfl
theorem zu_sep_b (H : Int → Bool) (k : Int) : zu_sep H k = 44 ∨ zu_sep H k = 32 := by
  unfold zu_sep
  split
  · exact Or.inl rfl
  · exact Or.inr rfl
def zu_fsF (H : Int → Bool) (v : Int → Int) (s : Int × (Int → Int)) : Nat → Int × (Int → Int)
  | 0 => s
  | k + 1 => if H k = true then zu_wn (v k) (zu_w1 (zu_fsF H v s k) (zu_sep H k)) else zu_fsF H v s k
def zu_fs (H : Int → Bool) (v : Int → Int) (s : Int × (Int → Int)) (k : Int) : Int × (Int → Int) := zu_fsF H v s k.toNat
theorem zu_fs_z (H : Int → Bool) (v : Int → Int) (s : Int × (Int → Int)) : zu_fs H v s 0 = s := rfl
theorem zu_fs_y {H : Int → Bool} {v : Int → Int} {s : Int × (Int → Int)} {k : Int} (h : 0 ≤ k) (hp : H k = true) : zu_fs H v s (k + 1) = zu_wn (v k) (zu_w1 (zu_fs H v s k) (zu_sep H k)) := by
  obtain ⟨j, rfl⟩ := Int.eq_ofNat_of_zero_le h
  show (if H j = true then zu_wn (v j) (zu_w1 (zu_fsF H v s j) (zu_sep H j)) else zu_fsF H v s j) = _
  rw [if_pos hp]
  rfl
theorem zu_fs_n {H : Int → Bool} {v : Int → Int} {s : Int × (Int → Int)} {k : Int} (h : 0 ≤ k) (hp : ¬ H k = true) : zu_fs H v s (k + 1) = zu_fs H v s k := by
  obtain ⟨j, rfl⟩ := Int.eq_ofNat_of_zero_le h
  show (if H j = true then zu_wn (v j) (zu_w1 (zu_fsF H v s j) (zu_sep H j)) else zu_fsF H v s j) = _
  rw [if_neg hp]
  rfl
/-- the letters of a NAME: as the class takes them, as the reference does -/
def zu_cP (c : Int) : Int → Bool := fun i => decide (zq_shr c (16 - 8 * i) ≠ 0)
def zu_cB (c : Int) : Int → Int := fun i => zq_and (zq_shr c (16 - 8 * i)) 255
def zu_y3 (k : Int) : Int := if k = 0 then 729 else if k = 1 then 27 else 1
def zu_rP (r : Int) : Int → Bool := fun k => decide (zu_y3 k ≤ r)
def zu_rB (r : Int) : Int → Int := fun k => 97 + zq_rem (zq_div r (zu_y3 k)) 27 - 1
def zu_cH (σ : zq_S) (a : Int) : Int → Bool := fun f => decide (σ (a + 1) f ≠ 0)
def zu_cv (σ : zq_S) (a x : Int) : Int → Int := fun f => zu_fo (zu_cM (σ (a + 1) f)) (zu_cM x) 12
def zu_rH (ρ : zq_S) (o : Int) : Int → Bool := fun f => decide (0 < zx_cnt ρ o f (ρ 0 2))
def zu_rv (ρ : zq_S) (o x : Int) : Int → Int := fun f => zu_rf ρ o x f
/-- a LINE, as each writes it -/
def zu_tc (σ : zq_S) (a x : Int) (A : Int → Int) : Int × (Int → Int) := zu_fs (zu_cH σ a) (zu_cv σ a x) (zu_nmw (zu_cP (σ a 0)) (zu_cB (σ a 0)) (0, A) 3) 4
def zu_tr (ρ : zq_S) (o x : Int) (A : Int → Int) : Int × (Int → Int) := zu_fs (zu_rH ρ o) (zu_rv ρ o x) (zu_nmw (zu_rP (ρ 1 o)) (zu_rB (ρ 1 o)) (0, A) 3) 4
def zu_sc (σ : zq_S) : Int × (Int → Int) := (σ 132 3, σ 133)
def zu_sr (ρ : zq_S) : Int × (Int → Int) := (ρ 0 34, ρ 20)
theorem zu_sc_w {σ τ : zq_S} {b : Int} (h : τ 132 3 = σ 132 3 + 1) (k : ∀ j, τ 133 j = if j = σ 132 3 then b else σ 133 j) : zu_sc τ = zu_w1 (zu_sc σ) b := Prod.ext h (funext k)
theorem zu_sr_w {σ τ : zq_S} {b : Int} (h : τ 0 34 = σ 0 34 + 1) (k : ∀ j, τ 20 j = if j = σ 0 34 then b else σ 20 j) : zu_sr τ = zu_w1 (zu_sr σ) b := Prod.ext h (funext k)
/-- what is asked of it -/
def zu_tq (s : Int × (Int → Int)) (k r : Int) : Prop := (k = -1 → r = s.1) ∧ (k ≠ -1 → k < s.1 → r = s.2 k) ∧ (k ≠ -1 → ¬ k < s.1 → r = -1)
/-- alike, as far as they are written -/
def zu_ev (s t : Int × (Int → Int)) : Prop := s.1 = t.1 ∧ 0 ≤ s.1 ∧ ∀ j, 0 ≤ j → j < s.1 → s.2 j = t.2 j
section ZUev
variable {s t : Int × (Int → Int)}
theorem zu_ev_1 (h : zu_ev s t) (c : Int) : zu_ev (zu_w1 s c) (zu_w1 t c) := by
  obtain ⟨h1, h2, h3⟩ := h
  refine ⟨by show s.1 + 1 = t.1 + 1; omega, by show 0 ≤ s.1 + 1; omega, fun j j0 j1 => ?_⟩
  have j1 : j < s.1 + 1 := j1
  show (if j = s.1 then c else s.2 j) = (if j = t.1 then c else t.2 j)
  by_cases e : j = s.1
  · rw [if_pos e, if_pos (by omega)]
  · rw [if_neg e, if_neg (by omega)]
    exact h3 j j0 (by omega)
theorem zu_ev_n (h : zu_ev s t) (v : Int) : zu_ev (zu_wn v s) (zu_wn v t) := by
  unfold zu_wn
  refine zu_ev_1 ?_ _
  have ha : zu_ev (zu_wa v s) (zu_wa v t) := by
    by_cases c : 100 ≤ v
    · rw [zu_wa_y c, zu_wa_y c]; exact zu_ev_1 h _
    · rw [zu_wa_n c, zu_wa_n c]; exact h
  by_cases c : 10 ≤ v
  · rw [zu_wc_y c, zu_wc_y c]; exact zu_ev_1 ha _
  · rw [zu_wc_n c, zu_wc_n c]; exact ha
theorem zu_ev_nm {P P' : Int → Bool} {B B' : Int → Int} (h : zu_ev s t) : ∀ k : Nat, (∀ i : Int, 0 ≤ i → i < k → P i = P' i ∧ (P i = true → B i = B' i)) → zu_ev (zu_nmF P B s k) (zu_nmF P' B' t k) := by
  intro k
  induction k with
  | zero => intro _; exact h
  | succ k ih =>
    intro g
    obtain ⟨e1, e2⟩ := g k (by omega) (by omega)
    have q := ih (fun i i0 i1 => g i i0 (by omega))
    show zu_ev (if P k = true then zu_w1 (zu_nmF P B s k) (B k) else zu_nmF P B s k) (if P' k = true then zu_w1 (zu_nmF P' B' t k) (B' k) else zu_nmF P' B' t k)
    rw [← e1]
    by_cases c : P k = true
    · rw [if_pos c, if_pos c, e2 c]; exact zu_ev_1 q _
    · rw [if_neg c, if_neg c]; exact q
theorem zu_ev_fs {H H' : Int → Bool} {v v' : Int → Int} (h : zu_ev s t) : ∀ k : Nat, (∀ i : Int, 0 ≤ i → i < k → H i = H' i ∧ (H i = true → v i = v' i)) → zu_ev (zu_fsF H v s k) (zu_fsF H' v' t k) ∧ zu_anF H k = zu_anF H' k := by
  intro k
  induction k with
  | zero => intro _; exact ⟨h, rfl⟩
  | succ k ih =>
    intro g
    obtain ⟨e1, e2⟩ := g k (by omega) (by omega)
    obtain ⟨q1, q2⟩ := ih (fun i i0 i1 => g i i0 (by omega))
    have es : zu_sep H (k : Int) = zu_sep H' (k : Int) := by
      show (if zu_anF H k = true then (44 : Int) else 32) = (if zu_anF H' k = true then 44 else 32)
      rw [q2]
    refine ⟨?_, by show (zu_anF H k || H k) = (zu_anF H' k || H' k); rw [q2, e1]⟩
    show zu_ev (if H k = true then zu_wn (v k) (zu_w1 (zu_fsF H v s k) (zu_sep H k)) else zu_fsF H v s k) (if H' k = true then zu_wn (v' k) (zu_w1 (zu_fsF H' v' t k) (zu_sep H' k)) else zu_fsF H' v' t k)
    rw [← e1, ← es]
    by_cases c : H k = true
    · rw [if_pos c, if_pos c, e2 c]; exact zu_ev_n (zu_ev_1 q1 _) _
    · rw [if_neg c, if_neg c]; exact q1
theorem zu_tq_u {k r u : Int} (h : zu_ev s t) (k0 : -1 ≤ k) (h1 : zu_tq s k r) (h2 : zu_tq t k u) : r = u := by
  obtain ⟨g1, g2, g3⟩ := h
  by_cases c : k = -1
  · rw [h1.1 c, h2.1 c]; exact g1
  · by_cases d : k < s.1
    · rw [h1.2.1 c d, h2.2.1 c (by omega)]; exact g3 k (by omega) d
    · rw [h1.2.2 c d, h2.2.2 c (by omega)]
end ZUev
theorem zu_y3_of {k x : Int} (h : (k = 0 → x = 729) ∧ (k = 1 → x = 27) ∧ (k = 2 → x = 1) ∧ (k = 3 → x = 0)) (hk : 0 ≤ k ∧ k ≤ 2) : x = zu_y3 k := by
  unfold zu_y3
  split
  · rename_i c; exact h.1 c
  · split
    · rename_i c; exact h.2.1 c
    · exact h.2.2.1 (by omega)
theorem zu_rf_fr {σ τ : zq_S} {o x f : Int} (h2 : ∀ i, τ 2 i = σ 2 i) (hb : τ 0 2 = σ 0 2) : zu_rf τ o x f = zu_rf σ o x f := by
  unfold zu_rf
  rw [zt_L_fr h2, hb]
theorem zu_tr_fr {σ τ : zq_S} {o x : Int} {A : Int → Int} (h2 : ∀ i, τ 2 i = σ 2 i) (hb : τ 0 2 = σ 0 2) (h1 : τ 1 o = σ 1 o) : zu_tr τ o x A = zu_tr σ o x A := by
  have e1 : zu_rH τ o = zu_rH σ o := funext (fun f => by unfold zu_rH; rw [hb, zx_cnt_fr h2])
  have e2 : zu_rv τ o x = zu_rv σ o x := funext (fun f => zu_rf_fr h2 hb)
  unfold zu_tr
  rw [e1, e2, h1]
