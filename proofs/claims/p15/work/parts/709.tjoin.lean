/-! ===== two ORDERS put in as one, side by side ===== -/
theorem zu_nmbF : ∀ i : Fin 10, (0 ≤ zt_nmb ((i.val : Nat) : Int) ∧ zt_nmb ((i.val : Nat) : Int) ≤ 127) ∧ (zt_p4 (zt_nmb ((i.val : Nat) : Int)) = 1 ↔ ((i.val : Nat) : Int) = 5) := by decide +kernel
theorem zu_nmb {x : Int} (h : 0 ≤ x) (h2 : x ≤ 9 ∨ 16 ≤ x) : (0 ≤ zt_nmb x ∧ zt_nmb x ≤ 127) ∧ (zt_p4 (zt_nmb x) = 1 ↔ x = 5) := by
  by_cases c : x ≤ 9
  · have q : (0 ≤ zt_nmb ((x.toNat : Nat) : Int) ∧ zt_nmb ((x.toNat : Nat) : Int) ≤ 127) ∧ (zt_p4 (zt_nmb ((x.toNat : Nat) : Int)) = 1 ↔ ((x.toNat : Nat) : Int) = 5) := zu_nmbF ⟨x.toNat, by omega⟩
    rw [show ((x.toNat : Nat) : Int) = x by omega] at q
    exact q
  · have e : zt_nmb x = 0 := by unfold zt_nmb; rw [if_neg (by omega), if_neg (by omega), if_pos (by omega)]
    rw [e]
    exact ⟨by decide, fun q => absurd q (by decide), fun q => absurd q (by omega)⟩
theorem zu_nm1 {m T L S V : Int} (hm : 0 ≤ m ∧ m ≤ 127) (hT : 0 ≤ T ∧ T ≤ 9) (hL : 0 ≤ L) (hL2 : L ≤ 9 ∨ 16 ≤ L) (hV : 0 ≤ V) (hV2 : V ≤ 9 ∨ 16 ≤ V) : (0 ≤ zt_nm1 m T L S V ∧ zt_nm1 m T L S V ≤ 127) ∧ (zt_p4 (zt_nm1 m T L S V) = 1 ↔ zt_p4 m = 1 ∨ L = 5 ∨ (S ≠ 0 ∧ V = 5)) := by
  have l := zu_nmb hL hL2
  have v := zu_nmb hV hV2
  have s : (0 ≤ (if S = 0 then 0 else zt_nmb V) ∧ (if S = 0 then 0 else zt_nmb V) ≤ 127) ∧ (zt_p4 (if S = 0 then 0 else zt_nmb V) = 1 ↔ S ≠ 0 ∧ V = 5) := by
    by_cases c : S = 0
    · rw [if_pos c]
      exact ⟨by decide, fun q => absurd q (by decide), fun q => absurd c q.1⟩
    · rw [if_neg c]
      exact ⟨v.1, fun q => ⟨c, v.2.mp q⟩, fun q => v.2.mpr q.2⟩
  have o1 := zt_p4_or l.1 s.1
  have o2 := zt_p4_or hm o1.1
  have key : zt_p4 (zq_or m (zq_or (zt_nmb L) (if S = 0 then 0 else zt_nmb V))) = 1 ↔ zt_p4 m = 1 ∨ L = 5 ∨ (S ≠ 0 ∧ V = 5) := by rw [o2.2, o1.2, l.2, s.2]
  unfold zt_nm1
  by_cases c : 6 ≤ T
  · rw [if_pos c]
    have t := zu_nmb (x := T - 6) (by omega) (Or.inl (by omega))
    have o3 := zt_p4_or o2.1 t.1
    refine ⟨o3.1, ?_⟩
    rw [o3.2, key]
    exact ⟨fun q => q.elim id (fun q => absurd (t.2.mp q) (by omega)), Or.inl⟩
  · rw [if_neg c]
    exact ⟨o2.1, key⟩
theorem zu_am1 {m T : Int} (hm : 0 ≤ m ∧ m ≤ 127) (hT : 0 ≤ T ∧ T ≤ 9) : (0 ≤ zt_am1 m T ∧ zt_am1 m T ≤ 127) ∧ (zt_p4 (zt_am1 m T) = 1 ↔ zt_p4 m = 1 ∨ T = 5) := by
  unfold zt_am1
  by_cases c : 6 ≤ T
  · rw [if_pos c]
    have o := zt_p4_or (y := 32) hm (by decide)
    refine ⟨o.1, ?_⟩
    rw [o.2]
    exact ⟨fun q => q.elim Or.inl (fun q => absurd q (by decide)), fun q => q.elim Or.inl (fun q => absurd q (by omega))⟩
  · rw [if_neg c]
    have t := zu_nmb hT.1 (Or.inl hT.2)
    have o := zt_p4_or hm t.1
    refine ⟨o.1, ?_⟩
    rw [o.2, t.2]
theorem zu_sn_b (c : Int) : 0 ≤ zt_sn c ∧ zt_sn c ≤ 6 := by
  unfold zt_sn
  repeat' split
  all_goals omega
theorem zu_rc5 (x : Int) : zt_rc x = 5 ↔ x = 5 := by
  unfold zt_rc
  split <;> omega
theorem zu_pn {σ ρ : zq_S} {a o : Int} (hT : zc_T σ) (hx : zx_T ρ) (ka : zc_kd a = 4) (h : zu_ac σ ρ a o) (g : σ a 4 = 0) : ((0 ≤ σ a 12 ∧ σ a 12 ≤ 127) ∧ (0 ≤ σ a 13 ∧ σ a 13 ≤ 127)) ∧ ((zt_p4 (σ a 12) = 1 ∨ zt_p4 (σ a 13) = 1) ↔ zt_pn ρ o (ρ 5 o)) := by
  obtain ⟨⟨g1, g2, g3, g4⟩, g5, g6, g7, g8⟩ := h
  rw [if_pos g, g3] at g7
  rw [g3] at g8
  have h5 := zx_ga5 hx o
  have key : ∀ k : Nat, (k : Int) ≤ ρ 5 o → ((0 ≤ zt_nmF (σ (a + 2)) (σ (a + 3)) (σ (a + 4)) (σ (a + 5)) 0 k ∧ zt_nmF (σ (a + 2)) (σ (a + 3)) (σ (a + 4)) (σ (a + 5)) 0 k ≤ 127) ∧ (0 ≤ zt_amF (σ (a + 2)) 0 k ∧ zt_amF (σ (a + 2)) 0 k ≤ 127)) ∧ ((zt_p4 (zt_nmF (σ (a + 2)) (σ (a + 3)) (σ (a + 4)) (σ (a + 5)) 0 k) = 1 ∨ zt_p4 (zt_amF (σ (a + 2)) 0 k) = 1) ↔ zt_pn ρ o k) := by
    intro k
    induction k with
    | zero =>
      intro _
      refine ⟨⟨⟨Int.le_refl 0, by show (0 : Int) ≤ 127; decide⟩, ⟨Int.le_refl 0, by show (0 : Int) ≤ 127; decide⟩⟩, fun q => ?_, fun q => absurd q (zt_pn_0 ρ o)⟩
      have q : zt_p4 0 = 1 ∨ zt_p4 0 = 1 := q
      exact absurd q (by decide)
    | succ k ih =>
      intro hk
      obtain ⟨⟨i1, i2⟩, i3⟩ := ih (by omega)
      obtain ⟨⟨w1, w2, w3, w4, w5, w6⟩, w7⟩ := g6 k (by omega) (by omega)
      have t := zx_ac0 hx (18 * o + 6 * k) (by omega)
      have l := zc_ga7 hT (zc_p4_3 ka) k
      have v := zc_ga9 hT (zc_p4_5 ka) k
      have l3 := l.2.2
      have v3 := v.2.2
      unfold zc_op at l3 v3
      have nm := zu_nm1 (m := zt_nmF (σ (a + 2)) (σ (a + 3)) (σ (a + 4)) (σ (a + 5)) 0 k) (T := σ (a + 2) k) (L := σ (a + 3) k) (S := σ (a + 4) k) (V := σ (a + 5) k) i1 (by omega) l.1 l3 v.1 v3
      have am := zu_am1 (m := zt_amF (σ (a + 2)) 0 k) (T := σ (a + 2) k) i2 (by omega)
      refine ⟨⟨nm.1, am.1⟩, ?_⟩
      have e1 : zt_p4 (zt_nmF (σ (a + 2)) (σ (a + 3)) (σ (a + 4)) (σ (a + 5)) 0 (k + 1)) = 1 ↔ _ := nm.2
      have e2 : zt_p4 (zt_amF (σ (a + 2)) 0 (k + 1)) = 1 ↔ _ := am.2
      rw [e1, e2, show ((k + 1 : Nat) : Int) = (k : Int) + 1 by omega, zt_pn_s (by omega), ← i3]
      unfold zt_pa
      rw [w1, w2, w4, w5, zu_rc5, zu_rc5]
      have sb := zu_sn_b (σ (a + 4) k)
      have s0 : σ (a + 4) k = 0 → zt_sn (σ (a + 4) k) = 0 := fun e => by rw [e]; exact zt_sn_0
      have se : 0 < zt_sn (σ (a + 4) k) ↔ σ (a + 4) k ≠ 0 := ⟨fun q e => by have := s0 e; omega, fun q => by have := w7.resolve_left q; omega⟩
      rw [se]
      constructor
      · intro q
        rcases q with (q | q | q) | (q | q)
        · exact Or.inl (Or.inl q)
        · exact Or.inr (Or.inr (Or.inl q))
        · exact Or.inr (Or.inr (Or.inr q))
        · exact Or.inl (Or.inr q)
        · exact Or.inr (Or.inl q)
      · intro q
        rcases q with (q | q) | (q | q | q)
        · exact Or.inl (Or.inl q)
        · exact Or.inr (Or.inl q)
        · exact Or.inr (Or.inr q)
        · exact Or.inl (Or.inr (Or.inl q))
        · exact Or.inl (Or.inr (Or.inr q))
  have q := key (ρ 5 o).toNat (by omega)
  rw [show (((ρ 5 o).toNat : Nat) : Int) = ρ 5 o by omega] at q
  rw [g7, g8]
  exact q
theorem zu_bc {σ ρ : zq_S} {a o f : Int} (hx : zx_T ρ) (h : zu_lk σ ρ a o) (f0 : 0 ≤ f) (f3 : f ≤ 3) : zt_bc (σ (a + 1) f) = zx_cnt ρ o f (ρ 0 2) ∧ (σ (a + 1) f = 0 ↔ zx_cnt ρ o f (ρ 0 2) = 0) ∧ 0 ≤ zx_cnt ρ o f (ρ 0 2) := by
  have zb := zx_g2 hx
  have e := h.2.2 f f0 f3
  have p := zt_cnt_mk (ρ := ρ) (o := o) (f := f) (b := ρ 0 2) (L := zt_L ρ o) (by omega) (fun i _ _ => rfl)
  have c := zx_cnt_b ρ o f (ρ 0 2) (by omega)
  rw [e]
  refine ⟨zt_bc_cnt ⟨by omega, by omega⟩ (fun i _ _ => rfl), ⟨fun q => ?_, fun q => ?_⟩, by omega⟩
  · by_cases d : 0 < zx_cnt ρ o f (ρ 0 2)
    · exact absurd q (p.mp d)
    · omega
  · refine Classical.byContradiction (fun d => ?_)
    have := p.mpr d
    omega
/-- FIELDS of both, as bits -/
theorem zu_orF : ∀ n : Fin 4, ∀ v : Fin 8, v.val < 2 ^ n.val → zq_or ((v.val : Nat) : Int) (zq_shl 1 ((n.val : Nat) : Int)) = ((v.val + 2 ^ n.val : Nat) : Int) ∧ zq_or ((v.val : Nat) : Int) 0 = ((v.val : Nat) : Int) := by decide +kernel
theorem zu_fm1 (ρ : zq_S) (o : Int) (n : Nat) (hn : n < 4) {v : Int} (e : zx_fm ρ o n = v) (hv : 0 ≤ v ∧ v < 2 ^ n) (h8 : (2 : Int) ^ n ≤ 8) : ∃ d : Int, (d = 0 ∨ d = 1) ∧ (d = 1 ↔ 0 < zx_cnt ρ o n (ρ 0 2)) ∧ zx_fm ρ o ((n : Int) + 1) = v + d * 2 ^ n := by
  have s := zx_fm_s ρ o n (by omega)
  have q : v.toNat < 2 ^ n → zq_or ((v.toNat : Nat) : Int) (zq_shl 1 ((n : Nat) : Int)) = ((v.toNat + 2 ^ n : Nat) : Int) ∧ zq_or ((v.toNat : Nat) : Int) 0 = ((v.toNat : Nat) : Int) := zu_orF ⟨n, hn⟩ ⟨v.toNat, by omega⟩
  have hn4 : n = 0 ∨ n = 1 ∨ n = 2 ∨ n = 3 := by omega
  have hv2 : v.toNat < 2 ^ n := by
    clear q s e
    rcases hn4 with rfl | rfl | rfl | rfl <;> omega
  have hp : ((2 ^ n : Nat) : Int) = 2 ^ n := by
    clear q s e
    rcases hn4 with rfl | rfl | rfl | rfl <;> rfl
  obtain ⟨q1, q2⟩ := q hv2
  rw [show ((v.toNat : Nat) : Int) = v by omega] at q1 q2
  rw [e] at s
  by_cases c : 0 < zx_cnt ρ o n (ρ 0 2)
  · refine ⟨1, Or.inr rfl, ⟨fun _ => c, fun _ => rfl⟩, ?_⟩
    rw [s.1 c, q1, Int.one_mul, ← hp]
    omega
  · refine ⟨0, Or.inl rfl, ⟨fun h => absurd h (by decide), fun h => absurd h c⟩, ?_⟩
    rw [s.2 c, q2, Int.zero_mul, Int.add_zero]
theorem zu_fm (ρ : zq_S) (o : Int) : ∃ d0 d1 d2 d3 : Int, ((d0 = 0 ∨ d0 = 1) ∧ (d1 = 0 ∨ d1 = 1) ∧ (d2 = 0 ∨ d2 = 1) ∧ (d3 = 0 ∨ d3 = 1)) ∧ (d0 = 1 ↔ 0 < zx_cnt ρ o 0 (ρ 0 2)) ∧ (d1 = 1 ↔ 0 < zx_cnt ρ o 1 (ρ 0 2)) ∧ (d2 = 1 ↔ 0 < zx_cnt ρ o 2 (ρ 0 2)) ∧ (d3 = 1 ↔ 0 < zx_cnt ρ o 3 (ρ 0 2)) ∧ zx_fm ρ o 4 = d0 + 2 * d1 + 4 * d2 + 8 * d3 := by
  obtain ⟨d0, a0, b0, e0⟩ := zu_fm1 ρ o 0 (by decide) (v := 0) (zx_fm_0 ρ o) (by decide) (by decide)
  have e0 : zx_fm ρ o 1 = d0 := by have q : zx_fm ρ o 1 = 0 + d0 * 2 ^ 0 := e0; omega
  obtain ⟨d1, a1, b1, e1⟩ := zu_fm1 ρ o 1 (by decide) (v := d0) e0 (by constructor <;> omega) (by decide)
  have e1 : zx_fm ρ o 2 = d0 + 2 * d1 := by have q : zx_fm ρ o 2 = d0 + d1 * 2 ^ 1 := e1; omega
  obtain ⟨d2, a2, b2, e2⟩ := zu_fm1 ρ o 2 (by decide) (v := d0 + 2 * d1) e1 (by constructor <;> omega) (by decide)
  have e2 : zx_fm ρ o 3 = d0 + 2 * d1 + 4 * d2 := by have q : zx_fm ρ o 3 = d0 + 2 * d1 + d2 * 2 ^ 2 := e2; omega
  obtain ⟨d3, a3, b3, e3⟩ := zu_fm1 ρ o 3 (by decide) (v := d0 + 2 * d1 + 4 * d2) e2 (by constructor <;> omega) (by decide)
  have e3 : zx_fm ρ o 4 = d0 + 2 * d1 + 4 * d2 + 8 * d3 := by have q : zx_fm ρ o 4 = d0 + 2 * d1 + 4 * d2 + d3 * 2 ^ 3 := e3; omega
  exact ⟨d0, d1, d2, d3, ⟨a0, a1, a2, a3⟩, b0, b1, b2, b3, e3⟩
theorem zu_bitF : ∀ u v : Fin 16, ∀ f : Fin 4, zq_and (zq_shr (zq_or ((u.val : Nat) : Int) ((v.val : Nat) : Int)) ((f.val : Nat) : Int)) 1 = 0 ↔ (u.val / 2 ^ f.val % 2 = 0 ∧ v.val / 2 ^ f.val % 2 = 0) := by decide +kernel
theorem zu_dig {d0 d1 d2 d3 u : Int} (a0 : d0 = 0 ∨ d0 = 1) (a1 : d1 = 0 ∨ d1 = 1) (a2 : d2 = 0 ∨ d2 = 1) (a3 : d3 = 0 ∨ d3 = 1) (e : u = d0 + 2 * d1 + 4 * d2 + 8 * d3) : (u.toNat / 1 % 2 = 0 ↔ ¬ d0 = 1) ∧ (u.toNat / 2 % 2 = 0 ↔ ¬ d1 = 1) ∧ (u.toNat / 4 % 2 = 0 ↔ ¬ d2 = 1) ∧ (u.toNat / 8 % 2 = 0 ↔ ¬ d3 = 1) := by
  subst e
  rcases a0 with rfl | rfl <;> rcases a1 with rfl | rfl <;> rcases a2 with rfl | rfl <;> rcases a3 with rfl | rfl <;> decide
theorem zu_bit {ρ : zq_S} {x y f : Int} (f0 : 0 ≤ f) (f3 : f ≤ 3) : zq_and (zq_shr (zq_or (zx_fm ρ x 4) (zx_fm ρ y 4)) f) 1 = 0 ↔ (¬ 0 < zx_cnt ρ x f (ρ 0 2) ∧ ¬ 0 < zx_cnt ρ y f (ρ 0 2)) := by
  have hu := zx_fm_b ρ x
  have hv := zx_fm_b ρ y
  have q : zq_and (zq_shr (zq_or (((zx_fm ρ x 4).toNat : Nat) : Int) (((zx_fm ρ y 4).toNat : Nat) : Int)) ((f.toNat : Nat) : Int)) 1 = 0 ↔ ((zx_fm ρ x 4).toNat / 2 ^ f.toNat % 2 = 0 ∧ (zx_fm ρ y 4).toNat / 2 ^ f.toNat % 2 = 0) := zu_bitF ⟨(zx_fm ρ x 4).toNat, by omega⟩ ⟨(zx_fm ρ y 4).toNat, by omega⟩ ⟨f.toNat, by omega⟩
  rw [show (((zx_fm ρ x 4).toNat : Nat) : Int) = zx_fm ρ x 4 by omega, show (((zx_fm ρ y 4).toNat : Nat) : Int) = zx_fm ρ y 4 by omega, show ((f.toNat : Nat) : Int) = f by omega] at q
  rw [q]
  have hf : f = 0 ∨ f = 1 ∨ f = 2 ∨ f = 3 := by omega
  clear q hu hv f0 f3
  obtain ⟨d0, d1, d2, d3, ⟨a0, a1, a2, a3⟩, b0, b1, b2, b3, e⟩ := zu_fm ρ x
  obtain ⟨g0, g1, g2, g3, ⟨h0, h1, h2, h3⟩, i0, i1, i2, i3, k⟩ := zu_fm ρ y
  have du := zu_dig a0 a1 a2 a3 e
  have dv := zu_dig h0 h1 h2 h3 k
  rcases hf with rfl | rfl | rfl | rfl
  · rw [← b0, ← i0, show (2 : Nat) ^ (0 : Int).toNat = 1 from rfl, du.1, dv.1]
  · rw [← b1, ← i1, show (2 : Nat) ^ (1 : Int).toNat = 2 from rfl, du.2.1, dv.2.1]
  · rw [← b2, ← i2, show (2 : Nat) ^ (2 : Int).toNat = 4 from rfl, du.2.2.1, dv.2.2.1]
  · rw [← b3, ← i3, show (2 : Nat) ^ (3 : Int).toNat = 8 from rfl, du.2.2.2, dv.2.2.2]
def zu_I (ρ : zq_S) (x y : Int) : Int := if 0 < zx_cnt ρ x 3 (ρ 0 2) then zx_cnt ρ x 3 (ρ 0 2) else zx_cnt ρ y 3 (ρ 0 2)
/-- how many bits a FIELD of both has -/
theorem zu_mx {σ ρ : zq_S} {a c x y f : Int} (hx : zx_T ρ) (ha : zu_or σ ρ a x) (hc : zu_or σ ρ c y) (hi : zx_cnt ρ x 3 (ρ 0 2) = 0 ∨ zx_cnt ρ y 3 (ρ 0 2) = 0 ∨ zx_cnt ρ x 3 (ρ 0 2) = zx_cnt ρ y 3 (ρ 0 2)) (f0 : 0 ≤ f) (f3 : f ≤ 3) : zt_mx (zt_bc (σ (a + 1) f)) (zt_bc (σ (c + 1) f)) = zx_mn (zq_or (zx_fm ρ x 4) (zx_fm ρ y 4)) (zu_I ρ x y) (ρ 0 1) f := by
  have ba := zu_bc hx ha.2.1 f0 f3
  have bc := zu_bc hx hc.2.1 f0 f3
  have bt := zu_bit (ρ := ρ) (x := x) (y := y) f0 f3
  have zk := zx_g1 hx
  have m := zt_mx_b (zt_bc (σ (a + 1) f)) (zt_bc (σ (c + 1) f))
  unfold zx_mn
  by_cases e : ¬ 0 < zx_cnt ρ x f (ρ 0 2) ∧ ¬ 0 < zx_cnt ρ y f (ρ 0 2)
  · rw [if_pos (bt.mpr e)]
    omega
  · rw [if_neg (fun q => e (bt.mp q))]
    by_cases g : f = 3
    · rw [if_pos g]
      unfold zu_I
      rw [g] at ba bc e m ⊢
      split <;> omega
    · rw [if_neg g]
      have fa := ha.2.2.2.1 f f0 (by omega)
      have fc := hc.2.2.2.1 f f0 (by omega)
      by_cases n1 : σ (a + 1) f = 0
      · by_cases n2 : σ (c + 1) f = 0
        · have := ba.2.1.mp n1
          have := bc.2.1.mp n2
          omega
        · have := ba.2.1.mp n1
          have := fc n2
          omega
      · by_cases n2 : σ (c + 1) f = 0
        · have := bc.2.1.mp n2
          have := fa n1
          omega
        · have := fa n1
          have := fc n2
          omega
theorem zu_fw {σ ρ : zq_S} {a c x y : Int} (hx : zx_T ρ) (ha : zu_or σ ρ a x) (hc : zu_or σ ρ c y) (hi : zx_cnt ρ x 3 (ρ 0 2) = 0 ∨ zx_cnt ρ y 3 (ρ 0 2) = 0 ∨ zx_cnt ρ x 3 (ρ 0 2) = zx_cnt ρ y 3 (ρ 0 2)) : ∀ k : Nat, k ≤ 4 → zt_fw (σ (a + 1)) (σ (c + 1)) k = zt_rs ρ x y k := by
  intro k
  induction k with
  | zero => intro _; rfl
  | succ k ih =>
    intro hk
    have h1 := zt_fw_s (σ (a + 1)) (σ (c + 1)) (k := (k : Int)) (by omega)
    have h2 := zx_ms_s (zq_or (zx_fm ρ x 4) (zx_fm ρ y 4)) (zu_I ρ x y) (ρ 0 1) (n := (k : Int)) (by omega)
    have h3 := zu_mx hx ha hc hi (f := (k : Int)) (by omega) (by omega)
    rw [show ((k + 1 : Nat) : Int) = (k : Int) + 1 by omega, h1, ih (by omega), h3]
    exact h2.symm
theorem zu_rb (ρ : zq_S) (x y : Int) : zt_rb ρ x y = zt_rs ρ x y 4 := by
  have a := zx_fm_b ρ x
  have b := zx_fm_b ρ y
  have o := zq_or_b (x := zx_fm ρ x 4) (y := zx_fm ρ y 4) 4 16 (by decide) (by decide) (by omega) (by omega)
  exact zx_rb_ms (by omega) (by omega)
/-- can they be one? -/
theorem zu_cfr {σ ρ : zq_S} {a c x y : Int} (hT : zc_T σ) (hx : zx_T ρ) (ka : zc_kd a = 4) (kc : zc_kd c = 4) (ha : zu_or σ ρ a x) (hc : zu_or σ ρ c y) : zt_cf σ a c ↔ zt_cr ρ x y := by
  have ba := zu_bc hx ha.2.1 (f := 3) (by decide) (by decide)
  have bc := zu_bc hx hc.2.1 (f := 3) (by decide) (by decide)
  obtain ⟨a1, a2, a3, a4⟩ := ha.2.2.1.1
  obtain ⟨c1, c2, c3, c4⟩ := hc.2.2.1.1
  unfold zt_cf zt_cr
  rw [a1, c1, a3, c3, a4, c4, ba.1, bc.1, ba.2.1, bc.2.1]
  by_cases g : ρ 3 x = 0 ∧ ρ 3 y = 0
  · have pa := zu_pn hT hx ka ha.2.2.1 (by omega)
    have pc := zu_pn hT hx kc hc.2.2.1 (by omega)
    have o1 := zt_p4_or pa.1.1 pa.1.2
    have o2 := zt_p4_or o1.1 pc.1.1
    have o3 := zt_p4_or o2.1 pc.1.2
    have key : zq_and (zq_or (zq_or (zq_or (σ a 12) (σ a 13)) (σ c 12)) (σ c 13)) 16 = 0 ↔ (¬ zt_pn ρ x (ρ 5 x) ∧ ¬ zt_pn ρ y (ρ 5 y)) := by
      rw [zt_p4_and o3.1, ← pa.2, ← pc.2]
      constructor
      · intro q
        exact ⟨fun w => q (o3.2.mpr (Or.inl (o2.2.mpr (Or.inl (o1.2.mpr w))))), fun w => q (w.elim (fun w => o3.2.mpr (Or.inl (o2.2.mpr (Or.inr w)))) (fun w => o3.2.mpr (Or.inr w)))⟩
      · intro q w
        rcases o3.2.mp w with w | w
        · rcases o2.2.mp w with w | w
          · exact q.1 (o1.2.mp w)
          · exact q.2 (Or.inl w)
        · exact q.2 (Or.inr w)
    rw [key]
  · exact ⟨fun q => absurd ⟨q.1, q.2.1⟩ g, fun q => absurd ⟨q.1, q.2.1⟩ g⟩
theorem zu_room_n {h : Int → Prop} {F : Prop} {k p r : Int} (hF : ¬ F) (h1 : zt_room h F k p r) : r = -2 := by
  by_cases c : 0 ≤ r
  · exact absurd (h1.1 c).1 hF
  · exact (h1.2 (by omega)).1
/-- the least free block: the same -/
theorem zu_room {σ ρ : zq_S} {a c x y q q' : Int} (hT : zc_T σ) (hx : zx_T ρ) (h : zu_T3 σ ρ) (b32 : σ 3 2 = ρ 0 2) (ka : zc_kd a = 4) (kc : zc_kd c = 4) (ha : zu_or σ ρ a x) (hc : zu_or σ ρ c y) (h1 : zt_room (fun y => σ 11 y = -1) (zt_cf σ a c ∧ zt_fw (σ (a + 1)) (σ (c + 1)) 4 < σ 3 2) (zx_p2 (zt_fw (σ (a + 1)) (σ (c + 1)) 4)) (zx_p2 (σ 3 2)) q) (h2 : zt_rr ρ x y q') : q = q' := by
  have cc := zu_cfr hT hx ka kc ha hc
  unfold zt_rr at h2
  by_cases g : zt_cr ρ x y
  · have hi := g.2.2.2.2.2
    have e4 : zt_fw (σ (a + 1)) (σ (c + 1)) 4 = zt_rb ρ x y := by rw [zu_rb]; exact zu_fw hx ha hc hi 4 (by decide)
    rw [e4, b32] at h1
    have zb := zx_g2 hx
    have rp : 0 ≤ zt_rb ρ x y := by rw [← e4]; have := zt_fw_le (σ (a + 1)) (σ (c + 1)) (j := 0) (m := 4) (by decide) (by decide); rw [zt_fw_0] at this; exact this
    refine zt_room_u (zt_room_c (h := fun y => σ 11 y = -1) (h' := zt_hl ρ) (F' := zt_cr ρ x y ∧ zt_rb ρ x y < ρ 0 2) ⟨fun w => ⟨cc.mp w.1, w.2⟩, fun w => ⟨cc.mpr w.1, w.2⟩⟩ (fun w m m0 m1 => zx_blk ⟨m, Int.mul_comm _ _⟩ m1 rp (Int.le_of_lt w.2)) (by have := zx_p2_pos (zt_rb ρ x y); omega) (fun n n0 n1 => ?_) h1) h2
    have bb := h.2.2.2.2 n n0 n1
    constructor
    · intro w
      exact (bb.1 (by omega)).2
    · intro w
      by_cases d : σ 11 n < 0
      · exact (bb.1 d).1
      · obtain ⟨b1, b2⟩ := bb.2 (by omega)
        exact absurd b2 (w _ (by omega) b1)
  · have e1 := zu_room_n (fun w => g (cc.mp w.1)) h1
    have e2 := zu_room_n (fun w => g w.1) h2
    omega
