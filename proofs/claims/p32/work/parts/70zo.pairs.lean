/-! ===== PAIRS in CODE ===== -/
noncomputable def zk_b (P : Prop) : Bool := @decide P (Classical.propDecidable P)
theorem zk_b_y {P : Prop} (h : P) : zk_b P = true := @decide_eq_true P (Classical.propDecidable P) h
theorem zk_b_n {P : Prop} (h : ¬ P) : ¬ zk_b P = true := fun q => h (@of_decide_eq_true P (Classical.propDecidable P) q)
theorem zk_b_c {P Q : Prop} (h : P ↔ Q) : zk_b P = zk_b Q := by rw [propext h]
def zk_pF (is : Int → Bool) (e : Int) : Nat → Int → Int
  | 0, _ => 0
  | k + 1, x => if x + 1 < e then (if is x = true then 1 + zk_pF is e k (x + 2) else zk_pF is e k (x + 1)) else 0
/-- how many pairs there are from x on -/
def zk_P (is : Int → Bool) (e x : Int) : Int := zk_pF is e (e - x).toNat x
section ZKP
variable {is is' : Int → Bool} {e x : Int}
theorem zk_pF_s : ∀ (k : Nat) (x : Int), e - x ≤ k → zk_pF is e (k + 1) x = zk_pF is e k x := by
  intro k
  induction k with
  | zero =>
    intro x h
    show (if x + 1 < e then (if is x = true then 1 + zk_pF is e 0 (x + 2) else zk_pF is e 0 (x + 1)) else 0) = 0
    rw [if_neg (by omega)]
  | succ k ih =>
    intro x h
    show (if x + 1 < e then (if is x = true then 1 + zk_pF is e (k + 1) (x + 2) else zk_pF is e (k + 1) (x + 1)) else 0) = (if x + 1 < e then (if is x = true then 1 + zk_pF is e k (x + 2) else zk_pF is e k (x + 1)) else 0)
    rw [ih (x + 2) (by omega), ih (x + 1) (by omega)]
theorem zk_P_y (h : x + 1 < e) (hi : is x = true) : zk_P is e x = 1 + zk_P is e (x + 2) := by
  unfold zk_P
  obtain ⟨m, hm⟩ : ∃ m : Nat, (e - (x + 2)).toNat = m := ⟨_, rfl⟩
  rw [hm, show (e - x).toNat = m + 1 + 1 by omega]
  show (if x + 1 < e then (if is x = true then 1 + zk_pF is e (m + 1) (x + 2) else zk_pF is e (m + 1) (x + 1)) else 0) = _
  rw [if_pos h, if_pos hi, zk_pF_s m (x + 2) (by omega)]
theorem zk_P_n (h : x + 1 < e) (hi : ¬ is x = true) : zk_P is e x = zk_P is e (x + 1) := by
  unfold zk_P
  obtain ⟨m, hm⟩ : ∃ m : Nat, (e - (x + 1)).toNat = m := ⟨_, rfl⟩
  rw [hm, show (e - x).toNat = m + 1 by omega]
  show (if x + 1 < e then (if is x = true then 1 + zk_pF is e m (x + 2) else zk_pF is e m (x + 1)) else 0) = _
  rw [if_pos h, if_neg hi]
theorem zk_P_e (h : ¬ x + 1 < e) : zk_P is e x = 0 := by
  unfold zk_P
  obtain ⟨m, hm⟩ : ∃ m : Nat, (e - x).toNat = m := ⟨_, rfl⟩
  rw [hm]
  cases m with
  | zero => rfl
  | succ m =>
    show (if x + 1 < e then (if is x = true then 1 + zk_pF is e m (x + 2) else zk_pF is e m (x + 1)) else 0) = 0
    rw [if_neg h]
theorem zk_pF_c (h : ∀ x, 0 ≤ x → x + 1 < e → is x = is' x) : ∀ (k : Nat) (x : Int), 0 ≤ x → zk_pF is e k x = zk_pF is' e k x := by
  intro k
  induction k with
  | zero => intro x _; rfl
  | succ k ih =>
    intro x x0
    show (if x + 1 < e then (if is x = true then 1 + zk_pF is e k (x + 2) else zk_pF is e k (x + 1)) else 0) = (if x + 1 < e then (if is' x = true then 1 + zk_pF is' e k (x + 2) else zk_pF is' e k (x + 1)) else 0)
    by_cases c : x + 1 < e
    · rw [if_pos c, if_pos c, h x x0 c, ih (x + 2) (by omega), ih (x + 1) (by omega)]
    · rw [if_neg c, if_neg c]
theorem zk_P_c (h : ∀ x, 0 ≤ x → x + 1 < e → is x = is' x) (x0 : 0 ≤ x) : zk_P is e x = zk_P is' e x := zk_pF_c h _ x x0
end ZKP
/-- FIELDS told alike: the class's, the reference's -/
def zk_ca (σ : zq_S) (p q X Y : Int) : Prop := ∀ f, 0 ≤ f → f ≤ 3 → σ (p + 1) f ≠ 0 → σ (q + 1) f ≠ 0 → zu_fo (zu_cM (σ (p + 1) f)) (zu_cM X) 12 = zu_fo (zu_cM (σ (q + 1) f)) (zu_cM Y) 12
def zk_ra (ρ : zq_S) (a b X Y : Int) : Prop := ∀ f, 0 ≤ f → f ≤ 3 → 0 < zx_cnt ρ a f (ρ 0 2) → 0 < zx_cnt ρ b f (ρ 0 2) → zu_rf ρ a X f = zu_rf ρ b Y f
def zk_c (σ : zq_S) (a b x : Int) : Prop := σ 11 (σ 139 x) = a ∧ σ 11 (σ 139 (x + 1)) = b ∧ zk_ca σ (σ 10 a) (σ 10 b) (σ 139 x) (σ 139 (x + 1))
def zk_r (ρ : zq_S) (a b x : Int) : Prop := zt_ow ρ (ρ 14 x) a ∧ zt_ow ρ (ρ 14 (x + 1)) b ∧ zk_ra ρ a b (ρ 14 x) (ρ 14 (x + 1))
theorem zt_ow_u {ρ : zq_S} {x r s : Int} (h : zt_ow ρ x r) (k : zt_ow ρ x s) (s0 : 0 ≤ s) : r = s := by
  obtain ⟨k1, k2, k3⟩ := k.2 s0
  by_cases r0 : 0 ≤ r
  · obtain ⟨h1, h2, h3⟩ := h.2 r0
    by_cases c : r < s
    · exact absurd h2 (k3 r r0 c)
    · by_cases d : s < r
      · exact absurd k2 (h3 s s0 d)
      · omega
  · exact absurd k2 ((h.1 (by omega)).2 s s0 k1)
section ZKT
variable {σ ρ : zq_S}
theorem zk_al {a b X Y : Int} (hx : zx_T ρ) (hT3 : zu_T3 σ ρ) (a0 : 0 ≤ a) (a1 : a < ρ 0 3) (b0 : 0 ≤ b) (b1 : b < ρ 0 3) (X0 : 0 ≤ X) (X1 : X < zx_p2 (ρ 0 2)) (Y0 : 0 ≤ Y) (Y1 : Y < zx_p2 (ρ 0 2)) : zk_ca σ (σ 10 a) (σ 10 b) X Y ↔ zk_ra ρ a b X Y := by
  have la := (hT3.2.2.1 a a0 a1).2.1
  have lb := (hT3.2.2.1 b b0 b1).2.1
  constructor
  · intro h f f0 f3 ca cb
    have za := zu_bc hx la f0 f3
    have zb := zu_bc hx lb f0 f3
    rw [← zu_fo_tie hx la f0 f3 X0 X1, ← zu_fo_tie hx lb f0 f3 Y0 Y1]
    exact h f f0 f3 (fun q => by have := za.2.1.mp q; omega) (fun q => by have := zb.2.1.mp q; omega)
  · intro h f f0 f3 ca cb
    have za := zu_bc hx la f0 f3
    have zb := zu_bc hx lb f0 f3
    rw [zu_fo_tie hx la f0 f3 X0 X1, zu_fo_tie hx lb f0 f3 Y0 Y1]
    refine h f f0 f3 ?_ ?_
    · have z : ¬ zx_cnt ρ a f (ρ 0 2) = 0 := fun q => ca (za.2.1.mpr q)
      have := za.2.2
      omega
    · have z : ¬ zx_cnt ρ b f (ρ 0 2) = 0 := fun q => cb (zb.2.1.mpr q)
      have := zb.2.2
      omega
theorem zk_ow {a X : Int} (hT3 : zu_T3 σ ρ) (X0 : 0 ≤ X) (X1 : X < zx_p2 (ρ 0 2)) (a0 : 0 ≤ a) : σ 11 X = a ↔ zt_ow ρ X a := by
  have bb := hT3.2.2.2.2 X X0 X1
  constructor
  · intro h
    rw [h] at bb
    obtain ⟨b1, b2⟩ := bb.2 a0
    refine ⟨fun q => absurd q (by omega), fun _ => ⟨b1, b2, fun o o0 o1 z => hT3.2.2.2.1 o a o0 o1 b1 (zt_is_co z b2)⟩⟩
  · intro h
    rcases zu_own hT3 X0 X1 h with ⟨w, z⟩ | ⟨w, z, z2⟩
    · omega
    · exact w
theorem zk_cr {a b x : Int} (hx : zx_T ρ) (hK : zx_K ρ) (hT3 : zu_T3 σ ρ) (hT4 : zu_T4 σ ρ) (a0 : 0 ≤ a) (a1 : a < ρ 0 3) (b0 : 0 ≤ b) (b1 : b < ρ 0 3) (x0 : 0 ≤ x) (x1 : x + 1 < 64) : zk_c σ a b x ↔ zk_r ρ a b x := by
  have X1 := hK x x0 (by omega)
  have Y1 := hK (x + 1) (by omega) (by omega)
  have X0 := (zx_ga14 hx x).1
  have Y0 := (zx_ga14 hx (x + 1)).1
  unfold zk_c zk_r
  rw [← hT4 x x0 (by omega), ← hT4 (x + 1) (by omega) (by omega), zk_ow hT3 X0 X1 a0, zk_ow hT3 Y0 Y1 b0, zk_al hx hT3 a0 a1 b0 b1 X0 X1 Y0 Y1]
theorem zk_PP {a b e : Int} (hx : zx_T ρ) (hK : zx_K ρ) (hT3 : zu_T3 σ ρ) (hT4 : zu_T4 σ ρ) (a0 : 0 ≤ a) (a1 : a < ρ 0 3) (b0 : 0 ≤ b) (b1 : b < ρ 0 3) (e64 : e ≤ 64) : zk_P (fun x => zk_b (zk_c σ a b x)) e 0 = zk_P (fun x => zk_b (zk_r ρ a b x)) e 0 := zk_P_c (fun x x0 x1 => zk_b_c (zk_cr hx hK hT3 hT4 a0 a1 b0 b1 x0 (by omega))) (Int.le_refl _)
end ZKT
theorem zk_ra_fr {σ τ : zq_S} {a b X Y : Int} (h2 : ∀ i, τ 2 i = σ 2 i) (hb : τ 0 2 = σ 0 2) : zk_ra τ a b X Y ↔ zk_ra σ a b X Y := by
  unfold zk_ra
  constructor
  · intro h f f0 f3 ca cb
    rw [← zu_rf_fr (τ := τ) h2 hb, ← zu_rf_fr (τ := τ) h2 hb]
    exact h f f0 f3 (by rw [zx_cnt_fr h2, hb]; exact ca) (by rw [zx_cnt_fr h2, hb]; exact cb)
  · intro h f f0 f3 ca cb
    rw [zu_rf_fr h2 hb, zu_rf_fr h2 hb]
    exact h f f0 f3 (by rw [← zx_cnt_fr h2, ← hb]; exact ca) (by rw [← zx_cnt_fr h2, ← hb]; exact cb)
theorem zk_rng {σ ρ : zq_S} (hx : zx_T ρ) (hT4 : zu_T4 σ ρ) : ∀ i, 0 ≤ i → i < 64 → 0 ≤ σ 139 i ∧ σ 139 i ≤ 4095 := fun i i0 i1 => by
  rw [← hT4 i i0 i1]
  exact zx_ga14 hx i
theorem zk_pairsL {σ ρ : zq_S} {a b e u v : Int} (hx : zx_T ρ) (hK : zx_K ρ) (hT3 : zu_T3 σ ρ) (hT4 : zu_T4 σ ρ) (gp : zq_hid ((¬ (0 ≤ a ∧ a < σ 3 3 ∧ 0 ≤ b ∧ b < σ 3 3 ∧ 0 ≤ e ∧ e ≤ 64) → v = -1) ∧ (0 ≤ a ∧ a < σ 3 3 ∧ 0 ≤ b ∧ b < σ 3 3 ∧ 0 ≤ e ∧ e ≤ 64 → v = zk_P (fun x => zk_b (zk_c σ a b x)) e 0))) (kw : zq_hid ((¬ (0 ≤ a ∧ a < ρ 0 3 ∧ 0 ≤ b ∧ b < ρ 0 3 ∧ 0 ≤ e ∧ e ≤ 64) → u = -1) ∧ (0 ≤ a ∧ a < ρ 0 3 ∧ 0 ≤ b ∧ b < ρ 0 3 ∧ 0 ≤ e ∧ e ≤ 64 → u = zk_P (fun x => zk_b (zk_r ρ a b x)) e 0))) : u = v := by
  have e3 := hT3.1.1
  by_cases c : 0 ≤ a ∧ a < ρ 0 3 ∧ 0 ≤ b ∧ b < ρ 0 3 ∧ 0 ≤ e ∧ e ≤ 64
  · rw [kw.2 c, gp.2 (by rw [e3]; exact c), zk_PP hx hK hT3 hT4 c.1 c.2.1 c.2.2.1 c.2.2.2.1 c.2.2.2.2.2]
  · rw [kw.1 c, gp.1 (by rw [e3]; exact c)]

