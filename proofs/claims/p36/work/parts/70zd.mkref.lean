/-! ===== make: the reference's jobs, and what they put ===== -/
theorem zu_rbt_V {ρ : zq_S} {o k : Int} {V W : Int → Int} (h : ∀ f, 0 ≤ f → f ≤ 3 → V f = W f) : zu_rbt ρ o V k = zu_rbt ρ o W k := by
  have e : ∀ i, zu_rbi ρ o V i = zu_rbi ρ o W i := fun i => by
    unfold zu_rbi
    rw [h 0 (by decide) (by decide), h 1 (by decide) (by decide), h 2 (by decide) (by decide), h 3 (by decide) (by decide)]
  unfold zu_rbt
  rw [show (fun i => decide (zu_rbi ρ o V i = 1)) = (fun i => decide (zu_rbi ρ o W i = 1)) from funext (fun i => by rw [e])]
/-- what the jobs rest on is as it was -/
def zm_S (D σ : zq_S) : Prop := (∀ a i, (a = 2 ∨ a = 3 ∨ a = 5 ∨ a = 6 ∨ a = 7 ∨ (21 ≤ a ∧ a ≤ 24)) → σ a i = D a i) ∧ (σ 0 1 = D 0 1 ∧ σ 0 2 = D 0 2 ∧ σ 0 3 = D 0 3 ∧ σ 0 37 = D 0 37) ∧ (∀ j, 0 ≤ j → j < D 0 37 → σ 32 j = zm_C D j)
theorem zm_S_form {D σ : zq_S} (h : zm_S D σ) (o : Int) : zx_form σ o = zx_form D o := zx_form_fr (fun i => h.1 2 i (by omega)) (fun i => h.1 3 i (by omega)) (fun i => h.1 5 i (by omega)) (fun i => h.1 6 i (by omega)) h.2.1.2.1 o
theorem zm_S_lm {D σ : zq_S} (h : zm_S D σ) : zx_lm σ (σ 0 3) = zx_lm D (D 0 3) := by
  rw [h.2.1.2.2.1]
  exact zx_lm_fr (fun i => h.1 2 i (by omega)) (fun i => h.1 3 i (by omega)) (fun i => h.1 5 i (by omega)) (fun i => h.1 6 i (by omega)) (fun i => h.1 7 i (by omega)) h.2.1.2.1 _
theorem zm_S_rbt {D σ : zq_S} (h : zm_S D σ) (o : Int) (V : Int → Int) : zu_rbt σ o V (σ 0 2) = zu_rbt D o V (D 0 2) := by
  rw [h.2.1.2.1]
  exact zu_rbt_fr (fun i => h.1 2 i (by omega)) h.2.1.2.1
theorem zm_S_fr {D σ τ : zq_S} (h : zm_S D σ) (ha : ∀ a i, (a = 2 ∨ a = 3 ∨ a = 5 ∨ a = 6 ∨ a = 7 ∨ (21 ≤ a ∧ a ≤ 24) ∨ a = 32) → τ a i = σ a i) (h1 : τ 0 1 = σ 0 1) (h2 : τ 0 2 = σ 0 2) (h3 : τ 0 3 = σ 0 3) (h37 : τ 0 37 = σ 0 37) : zm_S D τ := ⟨fun a i q => (ha a i (by omega)).trans (h.1 a i q), ⟨h1.trans h.2.1.1, h2.trans h.2.1.2.1, h3.trans h.2.1.2.2.1, h37.trans h.2.1.2.2.2⟩, fun j j0 j1 => (ha 32 j (by omega)).trans (h.2.2 j j0 j1)⟩
def zm_It (D : zq_S) (v : Int) : Int → Int := zm_I D (zm_C D) v
def zm_Wt (D : zq_S) (v : Int) : Int → Int := zm_w D (zm_C D) (zm_It D v) (zx_lm D (D 0 3))
def zm_pos (D : zq_S) (f : Int → Int) (σ : zq_S) : Int := if 0 < σ 0 59 then zx_pt σ f (σ 0 59 - 1) else D 0 37
def zm_Jb (D : zq_S) (v : Int) (σ : zq_S) : Prop := (∀ i, 0 ≤ i → i < σ 0 59 → σ 35 i = zm_It D v (σ 34 i) ∧ zm_It D v (σ 34 i) ≠ -1) ∧ (0 < σ 0 59 → σ 34 0 = D 0 37 - 1)
def zm_X (D : zq_S) (f : Int → Int) (v : Int) (σ : zq_S) : Prop := zm_Jb D v σ ∧ σ 0 54 = zm_n (zm_It D v) (zm_pos D f σ) ∧ zm_E (zm_It D v) (zm_Wt D v) (σ 33) (zm_pos D f σ) ∧ (σ 0 55 = 1 → zm_G (zm_It D v) (zx_p2 (D 0 1)) (zm_pos D f σ)) ∧ (σ 0 55 ≠ 1 → ¬ zm_G (zm_It D v) (zx_p2 (D 0 1)) (D 0 37))
section ZMX
variable {D σ τ : zq_S} {f : Int → Int} {v : Int}
theorem zm_X_same (h : zm_X D f v σ) (hj : zm_Jb D v τ) (hp : zm_pos D f τ = zm_pos D f σ) (h54 : τ 0 54 = σ 0 54) (h55 : τ 0 55 = σ 0 55) (h33 : ∀ i, τ 33 i = σ 33 i) : zm_X D f v τ := by
  obtain ⟨-, x2, x3, x4, x5⟩ := h
  unfold zm_X
  rw [hp, h54, h55, show τ 33 = σ 33 from funext h33]
  exact ⟨hj, x2, x3, x4, x5⟩
theorem zm_X_skip (h : zm_X D f v σ) (hj : zm_Jb D v τ) (p0 : 0 ≤ zm_pos D f σ) (hp : zm_pos D f τ = zm_pos D f σ + 1) (hI : zm_It D v (zm_pos D f σ) = -1) (h54 : τ 0 54 = σ 0 54) (h55 : τ 0 55 = σ 0 55) (h33 : ∀ i, τ 33 i = σ 33 i) : zm_X D f v τ := by
  obtain ⟨-, x2, x3, x4, x5⟩ := h
  unfold zm_X
  rw [hp, h54, h55, show τ 33 = σ 33 from funext h33]
  exact ⟨hj, by rw [zm_n_n p0 hI]; exact x2, zm_E_n p0 hI x3, fun q => zm_G_s (x4 q) (fun z => absurd hI z), x5⟩
theorem zm_X_put (h : zm_X D f v σ) (hj : zm_Jb D v τ) (p0 : 0 ≤ zm_pos D f σ) (p1 : zm_pos D f σ < D 0 37) (hp : zm_pos D f τ = zm_pos D f σ + 1) (hI : zm_It D v (zm_pos D f σ) ≠ -1) (h54 : τ 0 54 = σ 0 54 + 1) (h33 : τ 33 (σ 0 54) = zm_Wt D v (zm_pos D f σ)) (ho : ∀ i, i ≠ σ 0 54 → τ 33 i = σ 33 i) (h1 : σ 0 55 = 1) (h55 : τ 0 55 = 1 ↔ zm_It D v (zm_pos D f σ) < zx_p2 (D 0 1)) : zm_X D f v τ := by
  obtain ⟨-, x2, x3, x4, x5⟩ := h
  unfold zm_X
  rw [hp, h54]
  refine ⟨hj, by rw [zm_n_y p0 hI, x2], zm_E_y p0 hI (by rw [← x2]; exact h33) (fun i hi => ho i (by rw [x2]; exact hi)) x3, fun q => zm_G_s (x4 h1) (fun _ => h55.mp q), fun q z => q (h55.mpr (z _ p0 p1 hI))⟩
/-- where a job that is done leaves the work -/
theorem zm_pos_pop {p : Int} (ht : zx_tree (σ 21) (σ 23) (σ 24) f (σ 0 37)) (hJ : zx_J σ f p) (hj : zm_Jb D v σ) (hpos : 1 ≤ σ 0 59) (h37 : σ 0 37 = D 0 37) (h59 : τ 0 59 = σ 0 59 - 1) (h23 : ∀ i, τ 23 i = σ 23 i) (h34 : ∀ i, τ 34 i = σ 34 i) (h36 : ∀ i, i ≠ σ 0 59 - 1 → τ 36 i = σ 36 i) : zm_pos D f τ = σ 34 (σ 0 59 - 1) + 1 := by
  obtain ⟨g1, g2, g3, g4, g5⟩ := hJ
  unfold zm_pos
  by_cases c : 0 < τ 0 59
  · rw [if_pos c, h59]
    have q := g2 (σ 0 59 - 1 - 1) (by omega) (by omega)
    have j := g1 (σ 0 59 - 1 - 1) (by omega) (by omega)
    unfold zx_J2 at q
    rw [show σ 0 59 - 1 - 1 + 1 = σ 0 59 - 1 by omega] at q
    unfold zx_pt
    rw [h34, h36 (σ 0 59 - 1 - 1) (by omega), h23]
    rcases q with ⟨q1, q2⟩ | ⟨q1, q2⟩
    · rw [if_neg (by omega), if_pos q1, q2]
    · rw [if_neg (by omega), if_neg (by omega)]
      have hk : σ 21 (σ 34 (σ 0 59 - 1 - 1)) = 2 := j.2.2.2.2.2.2.2 (by omega)
      have := ((ht _ j.1 j.2.1).2.2.1 hk).1
      omega
  · rw [if_neg c]
    have e := hj.2 (by omega)
    rw [show σ 0 59 - 1 = 0 by omega, e]
    omega
theorem zm_pos_top (hpos : 1 ≤ σ 0 59) : zm_pos D f σ = zx_pt σ f (σ 0 59 - 1) := if_pos (by omega)
theorem zm_Jb_pop (hj : zm_Jb D v σ) (h59 : τ 0 59 = σ 0 59 - 1) (h34 : ∀ i, τ 34 i = σ 34 i) (h35 : ∀ i, τ 35 i = σ 35 i) : zm_Jb D v τ := ⟨fun i i0 i1 => by rw [h34, h35]; exact hj.1 i i0 (by omega), fun q => by rw [h34]; exact hj.2 (by omega)⟩
theorem zm_Jb_stay (hj : zm_Jb D v σ) (h59 : τ 0 59 = σ 0 59) (h34 : ∀ i, τ 34 i = σ 34 i) (h35 : ∀ i, τ 35 i = σ 35 i) : zm_Jb D v τ := ⟨fun i i0 i1 => by rw [h34, h35]; exact hj.1 i i0 (by omega), fun q => by rw [h34]; exact hj.2 (by omega)⟩
theorem zm_Jb_push {c x : Int} (hj : zm_Jb D v σ) (hpos : 1 ≤ σ 0 59) (h59 : τ 0 59 = σ 0 59 + 1) (h34 : ∀ i, i ≠ σ 0 59 → τ 34 i = σ 34 i) (h35 : ∀ i, i ≠ σ 0 59 → τ 35 i = σ 35 i) (c34 : τ 34 (σ 0 59) = c) (c35 : τ 35 (σ 0 59) = x) (hx : zm_It D v c = x) (hx0 : x ≠ -1) : zm_Jb D v τ := by
  refine ⟨fun i i0 i1 => ?_, fun q => by rw [h34 0 (by omega)]; exact hj.2 (by omega)⟩
  by_cases e : i = σ 0 59
  · rw [e, c34, c35, hx]
    exact ⟨rfl, hx0⟩
  · rw [h34 i e, h35 i e]
    exact hj.1 i i0 (by omega)
end ZMX
/-! the six ways that a job goes on -/
def zm_K (D : zq_S) (v : Int) : Prop := zm_Y D (zm_C D) (zm_P D) (zm_It D v) (zx_lm D (D 0 3)) v (-1) ∧ zm_F D (zm_C D) (zm_P D) (zx_lm D (D 0 3)) ∧ (∀ i, 0 ≤ i → i < D 0 37 → D 21 i = 0 → D 22 i < zx_p2 (D 0 1)) ∧ (∀ i, 0 ≤ D 21 i ∧ D 21 i ≤ 2)
section ZMJ
variable {D σ τ : zq_S} {f : Int → Int} {v p : Int}
/-- the top job's node and what it needs -/
theorem zm_top (hK : zm_K D v) (hS : zm_S D σ) (hJ : zx_J σ f p) (hX : zm_X D f v σ) (hpos : 1 ≤ σ 0 59) : 0 ≤ σ 34 (σ 0 59 - 1) ∧ σ 34 (σ 0 59 - 1) < D 0 37 ∧ σ 35 (σ 0 59 - 1) = zm_It D v (σ 34 (σ 0 59 - 1)) ∧ 0 ≤ zm_It D v (σ 34 (σ 0 59 - 1)) ∧ zm_It D v (σ 34 (σ 0 59 - 1)) ≠ -1 ∧ zm_It D v (σ 34 (σ 0 59 - 1)) ≤ v + D 0 37 := by
  have j := hJ.1 (σ 0 59 - 1) (by omega) (by omega)
  have b := hX.1.1 (σ 0 59 - 1) (by omega) (by omega)
  have c := hK.1.2.1 (σ 34 (σ 0 59 - 1))
  have e := hS.2.1.2.2.2
  have j1 := j.1
  have j2 := j.2.1
  have b2 := b.2
  exact ⟨j1, by omega, b.1, by omega, b2, by omega⟩
theorem zm_Wt_0 {j : Int} (h : D 21 j = 0) : zm_Wt D v j = zu_rbt D (zx_lm D (D 0 3)) (zm_v (zm_It D v j) (D 22 j) 0 0) (D 0 2) := by
  unfold zm_Wt zm_w zm_o zm_nu
  rw [if_pos h, if_pos h]
theorem zm_Wt_1 {j : Int} (h : D 21 j = 1) : zm_Wt D v j = zu_rbt D (zm_C D j) (zm_v (zm_It D v j) 0 0 (D 22 j)) (D 0 2) := by
  unfold zm_Wt zm_w zm_o zm_nu
  rw [if_neg (by omega), if_neg (by omega), if_pos h]
theorem zm_Wt_2 {j : Int} (h : D 21 j = 2) : zm_Wt D v j = zu_rbt D (zm_C D j) (if zx_form D (zm_C D j) = 3 then zm_v (zm_It D v j) (zm_la D (zm_C D) (zm_It D v) j) (zm_ra D (zm_C D) (zm_It D v) j) 0 else if zx_form D (zm_C D j) = 4 then zm_v (zm_It D v j) (zm_la D (zm_C D) (zm_It D v) j) 0 (D 22 (D 24 j)) else if zx_form D (zm_C D j) = 5 then zm_v (zm_It D v j) (zm_ra D (zm_C D) (zm_It D v) j) 0 0 else zm_v (zm_It D v j) 0 0 (D 22 (D 24 j))) (D 0 2) := by
  unfold zm_Wt zm_w zm_o zm_nu
  rw [if_neg (by omega), if_neg (by omega), if_neg (by omega)]
/-- the numbers for the sides, as they are found -/
theorem zm_args {n x x8 x9 x10 x11 x12 F : Int} (hS : zm_S D σ) (n0 : 0 ≤ n) (n1 : n < D 0 37) (hx : x = zm_It D v n) (hF : F = zx_form σ (σ 32 n)) (h8 : (x8 = 1 ∧ σ 21 (σ 23 n) = 0 ∧ F < 5) ∨ (x8 = 0 ∧ ¬ (σ 21 (σ 23 n) = 0 ∧ F < 5))) (h9 : (x9 = 1 ∧ σ 21 (σ 24 n) = 0) ∨ (x9 = 0 ∧ σ 21 (σ 24 n) ≠ 0)) (h10 : (x8 ≠ 0 → x10 = x) ∧ (x8 = 0 → x10 = x + 1)) (h11 : (x8 ≠ 0 → x11 = σ 22 (σ 23 n)) ∧ (x8 = 0 → x11 = x)) (h12 : (x9 ≠ 0 → x12 = σ 22 (σ 24 n)) ∧ (x9 = 0 → x12 = x10)) : x11 = zm_la D (zm_C D) (zm_It D v) n ∧ x12 = zm_ra D (zm_C D) (zm_It D v) n := by
  rw [hS.2.2 n n0 n1, zm_S_form hS] at hF
  rw [hS.1 23 n (by omega), hS.1 21 _ (by omega)] at h8
  rw [hS.1 24 n (by omega), hS.1 21 _ (by omega)] at h9
  rw [hS.1 23 n (by omega), hS.1 22 _ (by omega)] at h11
  rw [hS.1 24 n (by omega), hS.1 22 _ (by omega)] at h12
  unfold zm_la zm_ra
  rw [← hF, ← hx]
  refine ⟨?_, ?_⟩
  · rcases h8 with ⟨a, b⟩ | ⟨a, b⟩
    · rw [if_pos b]; exact h11.1 (by omega)
    · rw [if_neg b]; exact h11.2 a
  · rcases h9 with ⟨a, b⟩ | ⟨a, b⟩
    · rw [if_pos b]; exact h12.1 (by omega)
    · rw [if_neg b, h12.2 a]
      rcases h8 with ⟨c, d⟩ | ⟨c, d⟩
      · rw [if_pos d]; exact h10.1 (by omega)
      · rw [if_neg d]; exact h10.2 c
/-- there are REGISTERS for the sides, if there is one for the node -/
theorem zm_sides {n : Int} {f : Int → Int} (ht : zx_tree (D 21) (D 23) (D 24) f (D 0 37)) (hK : zm_K D v) (n0 : 0 ≤ n) (n1 : n < D 0 37) (k2 : D 21 n = 2) (hi : zm_It D v n ≠ -1) (hG : zm_G (zm_It D v) (zx_p2 (D 0 1)) n) : (zm_It D v n < zx_p2 (D 0 1) → zm_la D (zm_C D) (zm_It D v) n < zx_p2 (D 0 1)) ∧ ((zx_form D (zm_C D n) = 3 ∨ zx_form D (zm_C D n) = 5) → zm_ra D (zm_C D) (zm_It D v) n < zx_p2 (D 0 1)) := by
  obtain ⟨a1, a2, a3, a4, a5⟩ := (ht n n0 n1).2.2.1 k2
  have y := ((hK.1.2.2.1 n n0 n1 k2).1 (by omega) hi).2
  have x0 := hK.1.2.1 n
  unfold zm_la zm_ra
  refine ⟨fun q => ?_, fun q => ?_⟩
  · by_cases c : D 21 (D 23 n) = 0 ∧ zx_form D (zm_C D n) < 5
    · rw [if_pos c]; exact hK.2.2.1 _ a4 (by omega) c.1
    · rw [if_neg c]; exact q
  · by_cases c : D 21 (D 24 n) = 0
    · rw [if_pos c]; exact hK.2.2.1 _ (by omega) (by omega) c
    · rw [if_neg c]
      unfold zm_r at y
      rw [if_pos ⟨q, c⟩] at y
      have g := hG (D 24 n) (by omega) (by omega)
      rw [y] at g
      refine g ?_
      by_cases d : D 21 (D 23 n) = 0 ∧ zx_form D (zm_C D n) < 5
      · rw [if_pos d]; exact hi
      · rw [if_neg d]; omega
theorem zm_tree (hS : zm_S D σ) (ht : zx_tree (σ 21) (σ 23) (σ 24) f (σ 0 37)) : zx_tree (D 21) (D 23) (D 24) f (D 0 37) := by
  rw [hS.2.1.2.2.2] at ht
  exact zx_tree_fr (fun j _ _ => (hS.1 21 j (by omega)).symm) (fun j _ _ => (hS.1 23 j (by omega)).symm) (fun j _ _ => (hS.1 24 j (by omega)).symm) ht
/-- a node is put, and its job is done -/
theorem zm_go_pop (hK : zm_K D v) (hS : zm_S D σ) (ht : zx_tree (σ 21) (σ 23) (σ 24) f (σ 0 37)) (hJ : zx_J σ f p) (hX : zm_X D f v σ) (hpos : 1 ≤ σ 0 59) (h1 : σ 0 55 = 1) (hp : p = σ 34 (σ 0 59 - 1)) (e59 : τ 0 59 = σ 0 59 - 1) (e23 : ∀ i, τ 23 i = σ 23 i) (e34 : ∀ i, τ 34 i = σ 34 i) (e35 : ∀ i, τ 35 i = σ 35 i) (e36 : ∀ i, i ≠ σ 0 59 - 1 → τ 36 i = σ 36 i) (e54 : τ 0 54 = σ 0 54 + 1) (e33 : τ 33 (σ 0 54) = zm_Wt D v (σ 34 (σ 0 59 - 1))) (eo : ∀ j, j ≠ σ 0 54 → τ 33 j = σ 33 j) (e55 : τ 0 55 = 1 ↔ zm_It D v (σ 34 (σ 0 59 - 1)) < zx_p2 (D 0 1)) : zm_X D f v τ := by
  obtain ⟨t1, t2, t3, t4, t5, -⟩ := zm_top hK hS hJ hX hpos
  have ps : zm_pos D f σ = σ 34 (σ 0 59 - 1) := by
    rw [zm_pos_top hpos, ← hJ.2.2.1 (by omega), hp]
  exact zm_X_put hX (zm_Jb_pop hX.1 e59 e34 e35) (by omega) (by omega) (by rw [zm_pos_pop ht hJ hX.1 hpos hS.2.1.2.2.2 e59 e23 e34 e36, ps]) (by rw [ps]; exact t5) e54 (by rw [ps]; exact e33) eo h1 (by rw [ps]; exact e55)
theorem zm_goA (hK : zm_K D v) (hS : zm_S D σ) (ht : zx_tree (σ 21) (σ 23) (σ 24) f (σ 0 37)) (hJ : zx_J σ f p) (hX : zm_X D f v σ) (hpos : 1 ≤ σ 0 59) (h1 : σ 0 55 = 1) (k1 : σ 21 (σ 34 (σ 0 59 - 1)) = 1) (e59 : τ 0 59 = σ 0 59 - 1) (e23 : ∀ i, τ 23 i = σ 23 i) (e34 : ∀ i, τ 34 i = σ 34 i) (e35 : ∀ i, τ 35 i = σ 35 i) (e36 : ∀ i, i ≠ σ 0 59 - 1 → τ 36 i = σ 36 i) (e54 : τ 0 54 = σ 0 54 + 1) (e33 : τ 33 (σ 0 54) = zu_rbt σ (σ 32 (σ 34 (σ 0 59 - 1))) (zm_v (σ 35 (σ 0 59 - 1)) 0 0 (σ 22 (σ 34 (σ 0 59 - 1)))) (σ 0 2)) (eo : ∀ j, j ≠ σ 0 54 → τ 33 j = σ 33 j) (e55 : τ 0 55 = 1 ↔ σ 0 55 = 1 ∧ σ 35 (σ 0 59 - 1) < zx_p2 (σ 0 1) ∧ 0 < zx_p2 (σ 0 1) ∧ 0 < zx_p2 (σ 0 1)) : zm_X D f v τ := by
  obtain ⟨t1, t2, t3, t4, t5, -⟩ := zm_top hK hS hJ hX hpos
  have k1' : D 21 (σ 34 (σ 0 59 - 1)) = 1 := by rw [← hS.1 21 _ (by omega)]; exact k1
  have pp := zx_p2_pos (D 0 1)
  refine zm_go_pop hK hS ht hJ hX hpos h1 (zx_J_p1 ht hJ hpos (by omega)) e59 e23 e34 e35 e36 e54 ?_ eo ?_
  · rw [e33, zm_Wt_1 k1', zm_S_rbt hS, hS.2.2 _ t1 t2, t3, hS.1 22 _ (by omega)]
  · rw [hS.2.1.1, t3] at e55
    omega
theorem zm_goF {V : Int → Int} (hK : zm_K D v) (hS : zm_S D σ) (ht : zx_tree (σ 21) (σ 23) (σ 24) f (σ 0 37)) (hJ : zx_J σ f p) (hX : zm_X D f v σ) (hpos : 1 ≤ σ 0 59) (h1 : σ 0 55 = 1) (k2 : σ 21 (σ 34 (σ 0 59 - 1)) = 2) (hp : p = σ 34 (σ 0 59 - 1)) (e59 : τ 0 59 = σ 0 59 - 1) (e23 : ∀ i, τ 23 i = σ 23 i) (e34 : ∀ i, τ 34 i = σ 34 i) (e35 : ∀ i, τ 35 i = σ 35 i) (e36 : ∀ i, i ≠ σ 0 59 - 1 → τ 36 i = σ 36 i) (e54 : τ 0 54 = σ 0 54 + 1) (e33 : τ 33 (σ 0 54) = zu_rbt D (zm_C D (σ 34 (σ 0 59 - 1))) V (D 0 2)) (hV : V = if zx_form D (zm_C D (σ 34 (σ 0 59 - 1))) = 3 then zm_v (zm_It D v (σ 34 (σ 0 59 - 1))) (zm_la D (zm_C D) (zm_It D v) (σ 34 (σ 0 59 - 1))) (zm_ra D (zm_C D) (zm_It D v) (σ 34 (σ 0 59 - 1))) 0 else if zx_form D (zm_C D (σ 34 (σ 0 59 - 1))) = 4 then zm_v (zm_It D v (σ 34 (σ 0 59 - 1))) (zm_la D (zm_C D) (zm_It D v) (σ 34 (σ 0 59 - 1))) 0 (D 22 (D 24 (σ 34 (σ 0 59 - 1)))) else if zx_form D (zm_C D (σ 34 (σ 0 59 - 1))) = 5 then zm_v (zm_It D v (σ 34 (σ 0 59 - 1))) (zm_ra D (zm_C D) (zm_It D v) (σ 34 (σ 0 59 - 1))) 0 0 else zm_v (zm_It D v (σ 34 (σ 0 59 - 1))) 0 0 (D 22 (D 24 (σ 34 (σ 0 59 - 1))))) (eo : ∀ j, j ≠ σ 0 54 → τ 33 j = σ 33 j) (e55 : τ 0 55 = 1 ↔ zm_It D v (σ 34 (σ 0 59 - 1)) < zx_p2 (D 0 1)) : zm_X D f v τ := by
  have k2' : D 21 (σ 34 (σ 0 59 - 1)) = 2 := by rw [← hS.1 21 _ (by omega)]; exact k2
  exact zm_go_pop hK hS ht hJ hX hpos h1 hp e59 e23 e34 e35 e36 e54 (by rw [e33, zm_Wt_2 k2', hV]) eo e55
/-- a side becomes a job -/
theorem zm_goB {c x : Int} (hK : zm_K D v) (hS : zm_S D σ) (ht : zx_tree (σ 21) (σ 23) (σ 24) f (σ 0 37)) (hJ : zx_J σ f p) (hX : zm_X D f v σ) (hpos : 1 ≤ σ 0 59) (k2 : σ 21 (σ 34 (σ 0 59 - 1)) = 2) (e59 : τ 0 59 = σ 0 59 + 1) (e34 : ∀ i, i ≠ σ 0 59 → τ 34 i = σ 34 i) (e35 : ∀ i, i ≠ σ 0 59 → τ 35 i = σ 35 i) (c34 : τ 34 (σ 0 59) = c) (c35 : τ 35 (σ 0 59) = x) (c36 : τ 36 (σ 0 59) = 0) (hc : (σ 36 (σ 0 59 - 1) = 0 ∧ c = σ 23 (σ 34 (σ 0 59 - 1))) ∨ (σ 36 (σ 0 59 - 1) = 1 ∧ c = σ 24 (σ 34 (σ 0 59 - 1)))) (hx : zm_It D v c = x) (hx0 : x ≠ -1) (e54 : τ 0 54 = σ 0 54) (e55 : τ 0 55 = σ 0 55) (e33 : ∀ j, τ 33 j = σ 33 j) : zm_X D f v τ := by
  obtain ⟨t1, t2, t3, t4, t5, -⟩ := zm_top hK hS hJ hX hpos
  have h37 := hS.2.1.2.2.2
  obtain ⟨a1, a2, a3, a4, a5⟩ := (ht _ t1 (by omega)).2.2.1 k2
  refine zm_X_same hX (zm_Jb_push hX.1 hpos e59 e34 e35 c34 c35 hx hx0) ?_ e54 e55 e33
  rw [zm_pos_top hpos, zm_pos_top (by omega), e59, show σ 0 59 + 1 - 1 = σ 0 59 by omega]
  unfold zx_pt
  rw [if_pos c36, c34]
  rcases hc with ⟨q1, q2⟩ | ⟨q1, q2⟩
  · rw [if_pos q1, q2, a3]
  · rw [if_neg (by omega), if_pos q1, q2, a1]
    omega
/-- the left side is but a variable -/
theorem zm_posL (hS : zm_S D σ) (ht : zx_tree (σ 21) (σ 23) (σ 24) f (σ 0 37)) (hJ : zx_J σ f p) (hpos : 1 ≤ σ 0 59) (k2 : σ 21 (σ 34 (σ 0 59 - 1)) = 2) (s0 : σ 36 (σ 0 59 - 1) = 0) (kl : σ 21 (σ 23 (σ 34 (σ 0 59 - 1))) ≠ 2) (e59 : τ 0 59 = σ 0 59) (e23 : ∀ i, τ 23 i = σ 23 i) (e34 : ∀ i, τ 34 i = σ 34 i) (s1 : τ 36 (σ 0 59 - 1) = 1) : zm_pos D f σ = σ 23 (σ 34 (σ 0 59 - 1)) ∧ zm_pos D f τ = zm_pos D f σ + 1 := by
  have j := hJ.1 (σ 0 59 - 1) (by omega) (by omega)
  obtain ⟨a1, a2, a3, a4, a5⟩ := (ht _ j.1 j.2.1).2.2.1 k2
  have j2 := j.2.1
  have fl := (ht _ a4 (by omega)).2.2.2 kl
  rw [zm_pos_top hpos, zm_pos_top (by omega), e59]
  unfold zx_pt
  rw [if_pos s0, s1, if_neg (by decide), if_pos rfl, e34, e23, a3, fl]
  exact ⟨rfl, rfl⟩
theorem zm_goC (hK : zm_K D v) (hS : zm_S D σ) (ht : zx_tree (σ 21) (σ 23) (σ 24) f (σ 0 37)) (hJ : zx_J σ f p) (hX : zm_X D f v σ) (hpos : 1 ≤ σ 0 59) (h1 : σ 0 55 = 1) (k2 : σ 21 (σ 34 (σ 0 59 - 1)) = 2) (s0 : σ 36 (σ 0 59 - 1) = 0) (kl : σ 21 (σ 23 (σ 34 (σ 0 59 - 1))) = 0) (hF : 5 ≤ zx_form σ (σ 32 (σ 34 (σ 0 59 - 1)))) (e59 : τ 0 59 = σ 0 59) (e23 : ∀ i, τ 23 i = σ 23 i) (e34 : ∀ i, τ 34 i = σ 34 i) (e35 : ∀ i, τ 35 i = σ 35 i) (s1 : τ 36 (σ 0 59 - 1) = 1) (e54 : τ 0 54 = σ 0 54 + 1) (e33 : τ 33 (σ 0 54) = zu_rbt D (zx_lm D (D 0 3)) (zm_v (σ 35 (σ 0 59 - 1)) (σ 22 (σ 23 (σ 34 (σ 0 59 - 1)))) 0 0) (D 0 2)) (eo : ∀ j, j ≠ σ 0 54 → τ 33 j = σ 33 j) (e55 : τ 0 55 = 1 ↔ σ 0 55 = 1 ∧ σ 35 (σ 0 59 - 1) < zx_p2 (D 0 1) ∧ σ 22 (σ 23 (σ 34 (σ 0 59 - 1))) < zx_p2 (D 0 1) ∧ 0 < zx_p2 (D 0 1)) : zm_X D f v τ := by
  obtain ⟨t1, t2, t3, t4, t5, -⟩ := zm_top hK hS hJ hX hpos
  have h37 := hS.2.1.2.2.2
  obtain ⟨p1, p2⟩ := zm_posL (D := D) hS ht hJ hpos k2 s0 (by omega) e59 e23 e34 s1
  obtain ⟨a1, a2, a3, a4, a5⟩ := (ht _ t1 (by omega)).2.2.1 k2
  have k2' : D 21 (σ 34 (σ 0 59 - 1)) = 2 := by rw [← hS.1 21 _ (by omega)]; exact k2
  have e23' : σ 23 (σ 34 (σ 0 59 - 1)) = D 23 (σ 34 (σ 0 59 - 1)) := hS.1 23 _ (by omega)
  have kl' : D 21 (D 23 (σ 34 (σ 0 59 - 1))) = 0 := by rw [← e23', ← hS.1 21 _ (by omega)]; exact kl
  have y := ((hK.1.2.2.1 _ t1 t2 k2').1 (by omega) t5).1
  rw [hS.2.2 _ t1 t2, zm_S_form hS] at hF
  have yl : zm_It D v (D 23 (σ 34 (σ 0 59 - 1))) = zm_It D v (σ 34 (σ 0 59 - 1)) := by
    rw [y]
    unfold zm_l
    rw [if_neg (by omega)]
  have t8 := hK.2.2.1 (D 23 (σ 34 (σ 0 59 - 1))) (by omega) (by omega) kl'
  have pp := zx_p2_pos (D 0 1)
  have e22 : σ 22 (σ 23 (σ 34 (σ 0 59 - 1))) = D 22 (D 23 (σ 34 (σ 0 59 - 1))) := by rw [e23']; exact hS.1 22 _ (by omega)
  rw [t3, e22] at e55 e33
  refine zm_X_put hX (zm_Jb_stay hX.1 e59 e34 e35) (by omega) (by omega) p2 (by rw [p1, e23', yl]; exact t5) e54 ?_ eo h1 ?_
  · rw [p1, e23', zm_Wt_0 kl', yl]; exact e33
  · rw [p1, e23', yl]; omega
theorem zm_goD (hK : zm_K D v) (hS : zm_S D σ) (ht : zx_tree (σ 21) (σ 23) (σ 24) f (σ 0 37)) (hJ : zx_J σ f p) (hX : zm_X D f v σ) (hpos : 1 ≤ σ 0 59) (k2 : σ 21 (σ 34 (σ 0 59 - 1)) = 2) (s0 : σ 36 (σ 0 59 - 1) = 0) (kl : σ 21 (σ 23 (σ 34 (σ 0 59 - 1))) = 0) (hF : zx_form σ (σ 32 (σ 34 (σ 0 59 - 1))) < 5) (e59 : τ 0 59 = σ 0 59) (e23 : ∀ i, τ 23 i = σ 23 i) (e34 : ∀ i, τ 34 i = σ 34 i) (e35 : ∀ i, τ 35 i = σ 35 i) (s1 : τ 36 (σ 0 59 - 1) = 1) (e54 : τ 0 54 = σ 0 54) (e55 : τ 0 55 = σ 0 55) (e33 : ∀ j, τ 33 j = σ 33 j) : zm_X D f v τ := by
  obtain ⟨t1, t2, t3, t4, t5, -⟩ := zm_top hK hS hJ hX hpos
  have h37 := hS.2.1.2.2.2
  obtain ⟨p1, p2⟩ := zm_posL (D := D) hS ht hJ hpos k2 s0 (by omega) e59 e23 e34 s1
  obtain ⟨a1, a2, a3, a4, a5⟩ := (ht _ t1 (by omega)).2.2.1 k2
  have k2' : D 21 (σ 34 (σ 0 59 - 1)) = 2 := by rw [← hS.1 21 _ (by omega)]; exact k2
  have e23' : σ 23 (σ 34 (σ 0 59 - 1)) = D 23 (σ 34 (σ 0 59 - 1)) := hS.1 23 _ (by omega)
  have kl' : D 21 (D 23 (σ 34 (σ 0 59 - 1))) = 0 := by rw [← e23', ← hS.1 21 _ (by omega)]; exact kl
  have y := ((hK.1.2.2.1 _ t1 t2 k2').1 (by omega) t5).1
  rw [hS.2.2 _ t1 t2, zm_S_form hS] at hF
  unfold zm_l at y
  rw [if_pos ⟨kl', hF⟩] at y
  exact zm_X_skip hX (zm_Jb_stay hX.1 e59 e34 e35) (by omega) p2 (by rw [p1, e23']; exact y) e54 e55 e33
/-- the right side stays -/
theorem zm_goE (hK : zm_K D v) (hS : zm_S D σ) (ht : zx_tree (σ 21) (σ 23) (σ 24) f (σ 0 37)) (hJ : zx_J σ f p) (hX : zm_X D f v σ) (hpos : 1 ≤ σ 0 59) (k2 : σ 21 (σ 34 (σ 0 59 - 1)) = 2) (s0 : σ 36 (σ 0 59 - 1) = 1) (hR : ¬ ((zx_form σ (σ 32 (σ 34 (σ 0 59 - 1))) = 3 ∨ zx_form σ (σ 32 (σ 34 (σ 0 59 - 1))) = 5) ∧ σ 21 (σ 24 (σ 34 (σ 0 59 - 1))) ≠ 0)) (e59 : τ 0 59 = σ 0 59) (e23 : ∀ i, τ 23 i = σ 23 i) (e34 : ∀ i, τ 34 i = σ 34 i) (e35 : ∀ i, τ 35 i = σ 35 i) (s1 : τ 36 (σ 0 59 - 1) = 2) (e54 : τ 0 54 = σ 0 54) (e55 : τ 0 55 = σ 0 55) (e33 : ∀ j, τ 33 j = σ 33 j) : zm_X D f v τ := by
  obtain ⟨t1, t2, t3, t4, t5, -⟩ := zm_top hK hS hJ hX hpos
  have h37 := hS.2.1.2.2.2
  obtain ⟨a1, a2, a3, a4, a5⟩ := (ht _ t1 (by omega)).2.2.1 k2
  have k2' : D 21 (σ 34 (σ 0 59 - 1)) = 2 := by rw [← hS.1 21 _ (by omega)]; exact k2
  have e24' : σ 24 (σ 34 (σ 0 59 - 1)) = D 24 (σ 34 (σ 0 59 - 1)) := hS.1 24 _ (by omega)
  have y := ((hK.1.2.2.1 _ t1 t2 k2').1 (by omega) t5).2
  rw [hS.2.2 _ t1 t2, zm_S_form hS, e24', hS.1 21 _ (by omega)] at hR
  unfold zm_r at y
  rw [if_neg hR] at y
  have pn := (hK.1.2.2.2.1 _ t1 t2 t5).1
  obtain ⟨g1, g2, g3, g4, g5⟩ := (hK.2.1 _ t1 t2 pn).2.2 k2'
  have fb := zx_form_b D (zm_C D (σ 34 (σ 0 59 - 1)))
  have kr : σ 21 (σ 24 (σ 34 (σ 0 59 - 1))) ≠ 2 := by
    rw [e24', hS.1 21 _ (by omega)]
    by_cases c : zx_form D (zm_C D (σ 34 (σ 0 59 - 1))) = 4 ∨ zx_form D (zm_C D (σ 34 (σ 0 59 - 1))) = 6
    · have := (g3 c).1
      omega
    · omega
  have fr := (ht (σ 24 (σ 34 (σ 0 59 - 1))) (by omega) (by omega)).2.2.2 kr
  have ps : zm_pos D f σ = σ 24 (σ 34 (σ 0 59 - 1)) := by
    rw [zm_pos_top hpos]
    unfold zx_pt
    rw [if_neg (by omega), if_pos s0]
    rw [a1] at fr ⊢
    omega
  have pt : zm_pos D f τ = σ 34 (σ 0 59 - 1) := by
    rw [zm_pos_top (by omega), e59]
    unfold zx_pt
    rw [s1, if_neg (by decide), if_neg (by decide), e34]
  exact zm_X_skip hX (zm_Jb_stay hX.1 e59 e34 e35) (by omega) (by rw [pt, ps]; omega) (by rw [ps, e24']; exact y) e54 e55 e33
theorem zm_hxL {n x : Int} (hK : zm_K D v) (hS : zm_S D σ) (n0 : 0 ≤ n) (n1 : n < D 0 37) (k2 : D 21 n = 2) (hi : zm_It D v n ≠ -1) (hx : x = zm_It D v n) (kl : σ 21 (σ 23 n) ≠ 0) : zm_It D v (σ 23 n) = x := by
  have y := ((hK.1.2.2.1 n n0 n1 k2).1 (by omega) hi).1
  rw [hS.1 23 n (by omega), hS.1 21 _ (by omega)] at kl
  rw [hS.1 23 n (by omega), y, hx]
  unfold zm_l
  rw [if_neg (fun q => kl q.1)]
theorem zm_hxR {n x x8 x10 F : Int} (hK : zm_K D v) (hS : zm_S D σ) (n0 : 0 ≤ n) (n1 : n < D 0 37) (k2 : D 21 n = 2) (hi : zm_It D v n ≠ -1) (hx : x = zm_It D v n) (hF3 : F = 3 ∨ F = 5) (rk : σ 21 (σ 24 n) ≠ 0) (hF : F = zx_form σ (σ 32 n)) (h8 : (x8 = 1 ∧ σ 21 (σ 23 n) = 0 ∧ F < 5) ∨ (x8 = 0 ∧ ¬ (σ 21 (σ 23 n) = 0 ∧ F < 5))) (h10 : (x8 ≠ 0 → x10 = x) ∧ (x8 = 0 → x10 = x + 1)) : zm_It D v (σ 24 n) = x10 := by
  have y := ((hK.1.2.2.1 n n0 n1 k2).1 (by omega) hi).2
  rw [hS.2.2 n n0 n1, zm_S_form hS] at hF
  rw [hS.1 23 n (by omega), hS.1 21 _ (by omega)] at h8
  rw [hS.1 24 n (by omega), hS.1 21 _ (by omega)] at rk
  rw [hS.1 24 n (by omega), y]
  unfold zm_r
  rw [← hF, ← hx, if_pos ⟨hF3, rk⟩]
  rcases h8 with ⟨a, b⟩ | ⟨a, b⟩
  · rw [if_pos b, h10.1 (by omega)]
  · rw [if_neg b, h10.2 a]
theorem zm_y10n {x x8 x10 : Int} (h10 : (x8 ≠ 0 → x10 = x) ∧ (x8 = 0 → x10 = x + 1)) (x0 : 0 ≤ x) : x10 ≠ -1 := by
  by_cases c : x8 = 0
  · have := h10.2 c
    omega
  · have := h10.1 c
    omega
end ZMJ
