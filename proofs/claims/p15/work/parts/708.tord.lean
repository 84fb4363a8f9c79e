/-! ===== begin(), type(), order(), unorder(), side by side ===== -/
theorem zu_T3_0 {σ τ π : zq_S} (ad : ∀ i, 0 ≤ i → i < 20 → σ 10 i ≠ σ 3 5 ∧ ∀ j, 0 ≤ j → j < 20 → σ 10 i = σ 10 j → i = j) (c10 : ∀ i, τ 10 i = σ 10 i) (c35 : τ 3 5 = σ 3 5) (c33 : τ 3 3 = 0) (c34 : τ 3 4 = -4) (r3 : π 0 3 = 0) (r18 : π 0 18 = -4) (c11 : ∀ n, 0 ≤ n → n < 4096 → τ 11 n = -1) (b12 : π 0 2 ≤ 12) : zu_T3 τ π := by
  refine ⟨⟨by omega, by omega⟩, fun i i0 i1 => ?_, fun o o0 o1 => absurd o1 (by omega), fun o p o0 o1 p1 => absurd p1 (by omega), fun n n0 n1 => ?_⟩
  · rw [c10, c35]
    exact ⟨(ad i i0 i1).1, fun j j0 j1 e => (ad i i0 i1).2 j j0 j1 (by rw [c10] at e; exact e)⟩
  · have h2 := zx_p2_le (m := π 0 2) (n := 12) b12
    have e12 := zx_p2_12
    rw [c11 n n0 (by omega)]
    exact ⟨fun _ => ⟨rfl, fun o o0 o1 => absurd o1 (by omega)⟩, fun h => absurd h (by decide)⟩
theorem zu_T2_type {σ τ ρ π : zq_S} {w n r s : Int} (h : zu_T2 σ ρ) (hc : zu_ty (σ 2) (τ 2) (σ 1 1) (τ 1 1) w n r) (hd : zu_ty (ρ 10) (π 10) (ρ 0 14) (π 0 14) w n s) : r = s ∧ zu_T2 τ π := by
  have et : σ 2 = ρ 10 := funext h.2
  rw [et, h.1] at hc
  obtain ⟨a, b, c⟩ := zu_ty_u hc hd
  exact ⟨a, b, c⟩
/-- one more -/
theorem zu_T3_new {σ τ ρ π : zq_S} {sp : Int} (hT : zc_T σ) (hx : zx_T ρ) (hx' : zx_T π) (h : zu_T3 σ ρ) (esp : σ 3 5 = sp) (ksp : zc_kd sp = 4) (hO : zd_Own sp σ τ) (hw : π 0 0 = ρ 0 0) (hk : π 0 1 = ρ 0 1) (hb : π 0 2 = ρ 0 2) (hr : ∀ o, 0 ≤ o → o < ρ 0 3 → zu_r1 ρ π o) (c4 : τ 3 4 = π 0 18) (n20 : σ 3 3 < 20) (t33 : τ 3 3 = σ 3 3 + 1) (t35 : τ 3 5 = σ 10 (σ 3 3)) (t10 : ∀ i, τ 10 i = if i = σ 3 3 then sp else σ 10 i) (b32 : σ 3 2 = ρ 0 2) (tm : zt_mark σ τ (zx_p2 (σ 3 2)) (τ sp 1) (τ sp 2) (σ 3 3)) (o3 : π 0 3 = ρ 0 3 + 1) (hn : zu_or τ π sp (ρ 0 3)) (hd : ∀ o, 0 ≤ o → o < ρ 0 3 → ¬ zt_co (zt_L π o) (zt_L π (ρ 0 3)) (ρ 0 2)) : zu_T3 τ π := by
  obtain ⟨⟨a1, a2⟩, a3, a4, a5, a6⟩ := h
  have zb := zx_g2 hx
  have b12 : ρ 0 2 ≤ 12 := by omega
  have z3 := zx_g3 hx
  rw [a1] at n20 t33 t35
  have t10 : ∀ i, τ 10 i = if i = ρ 0 3 then sp else σ 10 i := fun i => by rw [← a1]; exact t10 i
  have cf : ∀ o, 0 ≤ o → o < ρ 0 3 → zu_cf σ τ (σ 10 o) := fun o o0 o1 => zu_cf_own hO (zc_ga10 hT zc_s10 o o0 (by omega)) ksp (by rw [← esp]; exact (a3 o o0 (by omega)).1)
  have hh2 := zx_p2_le (m := ρ 0 2) (n := 12) b12
  have e12 := zx_p2_12
  refine ⟨⟨by omega, c4⟩, fun i i0 i1 => ?_, fun o o0 o1 => ?_, fun o p o0 o1 p1 => ?_, fun n n0 n1 => ?_⟩
  · rw [t35]
    have hN := a3 (ρ 0 3) (by omega) n20
    refine ⟨?_, fun j j0 j1 e => ?_⟩
    · rw [t10 i]
      by_cases c : i = ρ 0 3
      · rw [if_pos c]; intro q; exact hN.1 (by rw [esp]; exact q.symm)
      · rw [if_neg c]; intro q; exact c ((a3 i i0 i1).2 (ρ 0 3) (by omega) n20 q)
    · rw [t10 i, t10 j] at e
      by_cases c : i = ρ 0 3
      · by_cases d : j = ρ 0 3
        · omega
        · rw [if_pos c, if_neg d] at e
          exact absurd (by rw [esp]; exact e.symm) (a3 j j0 j1).1
      · by_cases d : j = ρ 0 3
        · rw [if_neg c, if_pos d] at e
          exact absurd (by rw [esp]; exact e) (a3 i i0 i1).1
        · rw [if_neg c, if_neg d] at e
          exact (a3 i i0 i1).2 j j0 j1 e
  · rw [t10 o]
    by_cases c : o = ρ 0 3
    · rw [if_pos c, c]; exact hn
    · rw [if_neg c]
      exact zu_or_fr (cf o o0 (by omega)) (hr o o0 (by omega)) hw hk hb b12 (by have := zx_ga5 hx o; omega) (a4 o o0 (by omega))
  · rw [hb]
    by_cases c : p = ρ 0 3
    · rw [c]; exact hd o o0 (by omega)
    · exact fun q => a5 o p o0 o1 (by omega) ((zt_co_c (zu_r1_L b12 (hr o o0 (by omega))) (zu_r1_L b12 (hr p (by omega) (by omega)))).mp q)
  · rw [hb] at n1
    have tq := tm n
    rw [b32, a1] at tq
    have lk := hn.2.1
    have hi := zt_is_iff (L := zt_L π (ρ 0 3)) (b := ρ 0 2) (x := n) (m := τ sp 1) (v := τ sp 2) (by omega) b12 ⟨n0, n1⟩ (fun i _ _ => (zx_ga2 hx' _).1) (by rw [lk.1, hb]) (by rw [lk.2.1, hb])
    have old := a6 n n0 n1
    unfold zu_bb
    rw [hb, o3]
    by_cases c : 0 ≤ n ∧ n < zx_p2 (ρ 0 2) ∧ zq_and n (τ sp 1) = τ sp 2
    · rw [if_pos c] at tq
      rw [tq]
      exact ⟨fun q => absurd q (by omega), fun _ => ⟨by omega, hi.mp c.2.2⟩⟩
    · rw [if_neg c] at tq
      rw [tq]
      have ni : ¬ zt_is (zt_L π (ρ 0 3)) (ρ 0 2) n := fun q => c ⟨n0, n1, hi.mpr q⟩
      refine ⟨fun q => ⟨(old.1 q).1, fun o o0 o1 => ?_⟩, fun q => ?_⟩
      · by_cases d : o = ρ 0 3
        · rw [d]; exact ni
        · exact fun g => (old.1 q).2 o o0 (by omega) ((zt_is_c (zu_r1_L b12 (hr o o0 (by omega)))).mp g)
      · obtain ⟨g1, g2⟩ := old.2 q
        exact ⟨by omega, (zt_is_c (zu_r1_L b12 (hr _ q g1))).mpr g2⟩
/-- an ORDER that both have read -/
theorem zu_or_read {τ π : zq_S} {sp N : Int} {t : Int → Int} {n b k w : Int} (hC : zt_cC τ sp t n b) (hR : zt_cR π N t n b) (hK : zt_oK t n b k w) (eb : π 0 2 = b) (ek : π 0 1 = k) (ew : π 0 0 = w) : zu_or τ π sp N := by
  obtain ⟨k1, k2, ⟨k3, k3f⟩, k4, k5, k6, k7, k8, k9⟩ := hK
  obtain ⟨c0, c1, c2, c3, c4, c5, c6, c7, c8, c9, cA, cB, cD⟩ := hC
  obtain ⟨r1, r2, r3, r4, r5, r6, r7⟩ := hR
  have eL : ∀ i, 0 ≤ i → i < b → zt_L π N i = zt_oV t n i := r2
  have e5 : τ sp 6 = π 5 N := by rw [c6, r5]
  refine ⟨by rw [c0, r1]; exact zu_nt_s k1, ⟨?_, ?_, fun f f0 f3 => ?_⟩, ⟨⟨by rw [c4, r3], by rw [c5, r4], e5, by rw [c8, r7]⟩, ?_, fun j j0 j1 => ?_, ?_, ?_⟩, ?_⟩
  · rw [c1, eb]
    exact zt_mk_c (fun i i0 i1 => by show decide (zt_oV t n i ≤ 1) = decide (zt_L π N i ≤ 1); rw [eL i i0 i1])
  · rw [c2, eb]
    exact zt_mk_c (fun i i0 i1 => by show decide (zt_oV t n i = 1) = decide (zt_L π N i = 1); rw [eL i i0 i1])
  · rw [c3 f f0 f3, eb]
    exact zt_mk_c (fun i i0 i1 => by show decide (zt_oV t n i = 2 + f) = decide (zt_L π N i = 2 + f); rw [eL i i0 i1])
  · rw [c4, c5]
    intro hg h3
    by_cases c : zt_tkR t n 63 (zt_oG t n b) = 0
    · exact hg (by unfold zt_gK; rw [if_pos c])
    · exact k5 (by unfold zt_gR; rw [if_neg c, if_pos (Or.inr (Or.inl h3))])
  · obtain ⟨b1, b2, b3, b4⟩ := c7 j j0 (by rw [← r5]; exact j1)
    unfold zu_row
    rw [b1, b2, b3, b4]
    refine ⟨(r6 j j0 (by rw [← r5]; exact j1)).2, ?_⟩
    unfold zt_acS
    split
    · exact Or.inl rfl
    · rename_i h; exact Or.inr h
  · rw [c9, c4, c5, c6]
    refine zt_nmK_c (fun i i0 i1 => ?_)
    obtain ⟨b1, b2, b3, b4⟩ := c7 i i0 i1
    exact ⟨b1.symm, b2.symm, b3.symm, b4.symm⟩
  · rw [cA, c6]
    exact zt_amK_c (fun i i0 i1 => (c7 i i0 i1).1.symm)
  · rw [ek, ew]
    exact (zt_fok_ext (fun f f0 f3 => c3 f f0 f3)).mpr k3f
/-- what is read is kept, or shares bits -/
theorem zu_T3_acc {σ τ ρ π : zq_S} {r s q sp : Int} {t : Int → Int} {n : Int} (hT : zc_T σ) (hx : zx_T ρ) (hx' : zx_T π) (h : zu_T3 σ ρ) (esp : σ 3 5 = sp) (ksp : zc_kd sp = 4) (b32 : σ 3 2 = ρ 0 2) (hO : zd_Own sp σ τ) (hw : π 0 0 = ρ 0 0) (hk : π 0 1 = ρ 0 1) (hb : π 0 2 = ρ 0 2) (hr : ∀ o, 0 ≤ o → o < ρ 0 3 → zu_r1 ρ π o) (hC : zt_cC τ sp t n (ρ 0 2)) (hA : zt_acc σ τ τ sp r) (hR : zt_cR π (ρ 0 3) t n (ρ 0 2)) (hK : zt_oK t n (ρ 0 2) (ρ 0 1) (ρ 0 0)) (hq : zt_sw π (ρ 0 3) (ρ 0 3) q) (q1 : 0 ≤ q → s = -2 ∧ π 0 18 = q ∧ π 0 3 = ρ 0 3) (q2 : q < 0 → π 0 18 = ρ 0 18 ∧ (ρ 0 3 = 20 → s = -3 ∧ π 0 3 = ρ 0 3) ∧ (ρ 0 3 ≠ 20 → s = ρ 0 3 ∧ π 0 3 = ρ 0 3 + 1)) : r = s ∧ zu_T3 τ π := by
  have hor := zu_or_read hC hR hK hb hk hw
  have lkN := hor.2.1
  obtain ⟨⟨a1, a2⟩, a3, a4, a5, a6⟩ := id h
  have zb := zx_g2 hx
  have b12 : ρ 0 2 ≤ 12 := by omega
  have z3 := zx_g3 hx
  have cf : ∀ o, 0 ≤ o → o < ρ 0 3 → zu_cf σ τ (σ 10 o) := fun o o0 o1 => zu_cf_own hO (zc_ga10 hT zc_s10 o o0 (by omega)) ksp (by rw [← esp]; exact (a3 o o0 (by omega)).1)
  obtain ⟨l, l0, l1, ⟨m1, m2⟩, ha, hd⟩ := hA
  rw [b32] at l1 m2 ha hd
  rw [a1] at m1 m2
  unfold zt_sw at hq
  rw [hb] at hq
  have li : ∀ i, 0 ≤ i → i < ρ 0 3 → zu_lk τ π (σ 10 i) i := fun i i0 i1 => zu_lk_fr (cf i i0 i1) (hr i i0 i1) hb b12 (a4 i i0 i1).2.1
  have lu : ∀ i, 0 ≤ i → i < ρ 0 3 → (zt_lu (σ 10) τ sp i = 0 ↔ zt_co (zt_L π i) (zt_L π (ρ 0 3)) (ρ 0 2)) := fun i i0 i1 => by
    have g := li i i0 i1
    unfold zt_lu
    rw [g.1, g.2.1, lkN.1, lkN.2.1, hb]
    exact zt_co_iff b12 (by omega) (fun j _ _ => (zx_ga2 hx' _).1) (fun j _ _ => (zx_ga2 hx' _).1)
  have lo : ∀ i, 0 ≤ i → i < ρ 0 3 → zt_lo (σ 10) τ sp i = zt_cb (zt_L π i) (zt_L π (ρ 0 3)) (ρ 0 2) := fun i i0 i1 => by
    have g := li i i0 i1
    unfold zt_lo
    rw [g.2.1, lkN.2.1, hb]
    exact zt_cb_or b12
  by_cases c : l < zx_p2 (ρ 0 2)
  · obtain ⟨x1, x2, x3⟩ := ha c
    obtain ⟨i, i0, i1, iz, il⟩ := m2.resolve_left (by omega)
    have ic := (lu i i0 i1).mp iz
    rw [lo i i0 i1] at il
    have q0 : 0 ≤ q := by
      by_cases g : 0 ≤ q
      · exact g
      · exact absurd ic ((hq.1 (by omega)).2 i i0 i1)
    obtain ⟨⟨j, j0, j1, jc, je⟩, jm⟩ := hq.2 q0
    have k1 : l ≤ zt_cb (zt_L π j) (zt_L π (ρ 0 3)) (ρ 0 2) := by
      have g := m1 j j0 j1 ((lu j j0 j1).mpr jc)
      rw [lo j j0 j1] at g
      exact g
    have k2 := jm i i0 i1 ic
    have k4 : zt_cb (zt_L π j) (zt_L π (ρ 0 3)) (ρ 0 2) = l := by omega
    have isj : zt_is (zt_L π j) (ρ 0 2) l := by
      rw [← k4]
      exact zt_cb_is b12 (by omega) (fun j _ _ => (zx_ga2 hx' _).1) jc
    have isr : zt_is (zt_L ρ j) (ρ 0 2) l := (zt_is_c (zu_r1_L b12 (hr j j0 j1))).mp isj
    have bl := a6 l l0 c
    have ej : σ 11 l = j := by
      by_cases g : σ 11 l < 0
      · exact absurd isr ((bl.1 g).2 j j0 j1)
      · obtain ⟨b1, b2⟩ := bl.2 (by omega)
        by_cases e : σ 11 l = j
        · exact e
        · exfalso
          by_cases f : σ 11 l < j
          · exact a5 _ j (by omega) f j1 (zt_is_co b2 isr)
          · exact a5 j _ j0 (by omega) b1 (zt_is_co isr b2)
    obtain ⟨y1, y2, y3⟩ := q1 q0
    exact ⟨by omega, zu_T3_same hx h x3 (by omega) y3 hw hk hb cf hr⟩
  · obtain ⟨x2, xk⟩ := hd c
    have nsh : ∀ i, 0 ≤ i → i < ρ 0 3 → ¬ zt_co (zt_L π i) (zt_L π (ρ 0 3)) (ρ 0 2) := fun i i0 i1 ic => by
      have g := m1 i i0 i1 ((lu i i0 i1).mpr ic)
      rw [lo i i0 i1] at g
      have := zt_cb_r (zt_L π i) (zt_L π (ρ 0 3)) (ρ 0 2)
      omega
    have q0 : q < 0 := by
      by_cases g : q < 0
      · exact g
      · obtain ⟨⟨j, j0, j1, jc, _⟩, _⟩ := hq.2 (by omega)
        exact absurd jc (nsh j j0 j1)
    obtain ⟨y2, y3, y4⟩ := q2 q0
    rcases xk with ⟨k1, k2, k3⟩ | ⟨k1, k2, k3, k4, k5, k6⟩
    · obtain ⟨z1, z2⟩ := y3 (by omega)
      exact ⟨by omega, zu_T3_same hx h k3 (by omega) z2 hw hk hb cf hr⟩
    · obtain ⟨z1, z2⟩ := y4 (by omega)
      exact ⟨by omega, zu_T3_new hT hx hx' h esp ksp hO hw hk hb hr (by omega) k1 k3 k4 k5 b32 k6 z2 hor nsh⟩
/-- a name that is told already -/
theorem zu_dup {σ ρ : zq_S} {t : Int → Int} {n : Int} (h : zu_T3 σ ρ) : (∃ i, 0 ≤ i ∧ i < ρ 0 3 ∧ σ (σ 10 i) 0 = zt_na t (zt_z0 t n) (zt_n0 t n)) ↔ (∃ i, 0 ≤ i ∧ i < ρ 0 3 ∧ ρ 1 i = zt_nb t (zt_z0 t n) (zt_n0 t n)) := by
  have a4 := h.2.2.1
  by_cases hz : zt_n0 t n = 0
  · rw [hz, zt_na_0, zt_nb_0]
    constructor
    · intro ⟨i, i0, i1, e⟩
      have q := zu_nt_nz (a4 i i0 i1).1
      omega
    · intro ⟨i, i0, i1, e⟩
      have q := zu_nt_nz (a4 i i0 i1).1
      omega
  · have nt : zu_nt (zt_na t (zt_z0 t n) (zt_n0 t n)) (zt_nb t (zt_z0 t n) (zt_n0 t n)) := zu_nt_s hz
    constructor
    · intro ⟨i, i0, i1, e⟩
      exact ⟨i, i0, i1, (zu_nt_u (a4 i i0 i1).1 nt).mp e⟩
    · intro ⟨i, i0, i1, e⟩
      exact ⟨i, i0, i1, (zu_nt_u (a4 i i0 i1).1 nt).mpr e⟩
theorem zu_T3_order {σ τ ρ π : zq_S} {r s sp : Int} (hT : zc_T σ) (hx : zx_T ρ) (hx' : zx_T π) (h1 : zu_T1 σ ρ) (h2 : zu_T2 σ ρ) (h : zu_T3 σ ρ) (esp : σ 3 5 = sp) (ksp : zc_kd sp = 4) (hO : zd_Own sp σ τ) (hc : zt_oc σ τ sp r) (hd : zt_ro ρ π s) (hw : π 0 0 = ρ 0 0) (hk : π 0 1 = ρ 0 1) (hb : π 0 2 = ρ 0 2) (hr : ∀ o, 0 ≤ o → o < ρ 0 3 → zu_r1 ρ π o) : r = s ∧ zu_T3 τ π := by
  obtain ⟨e0, e1, e2⟩ := h1
  have et : σ 2 = ρ 10 := funext h2.2
  have en := h2.1
  obtain ⟨⟨a1, a2⟩, a3, a4, a5, a6⟩ := id h
  have z3 := zx_g3 hx
  have cf : ∀ o, 0 ≤ o → o < ρ 0 3 → zu_cf σ τ (σ 10 o) := fun o o0 o1 => zu_cf_own hO (zc_ga10 hT zc_s10 o o0 (by omega)) ksp (by rw [← esp]; exact (a3 o o0 (by omega)).1)
  unfold zt_oc at hc
  unfold zt_ro at hd
  rw [et, en, e0, e1, e2, a1] at hc
  have dd := zu_dup (t := ρ 10) (n := ρ 0 14) h
  by_cases cD : ∃ i, 0 ≤ i ∧ i < ρ 0 3 ∧ ρ 1 i = zt_nb (ρ 10) (zt_z0 (ρ 10) (ρ 0 14)) (zt_n0 (ρ 10) (ρ 0 14))
  · obtain ⟨x1, x2, x3⟩ := hc.1 (dd.mpr cD)
    obtain ⟨y1, y2, y3⟩ := hd.1 cD
    exact ⟨by omega, zu_T3_same hx h x3 (by omega) y3 hw hk hb cf hr⟩
  · by_cases cK : zt_oK (ρ 10) (ρ 0 14) (ρ 0 2) (ρ 0 1) (ρ 0 0)
    · obtain ⟨hC, hA⟩ := hc.2.2 (fun q => cD (dd.mp q)) cK
      obtain ⟨hR, q, hq, q1, q2⟩ := hd.2.2 cD cK
      exact zu_T3_acc hT hx hx' h esp ksp e2 hO hw hk hb hr hC hA hR cK hq q1 q2
    · obtain ⟨x1, x2, x3⟩ := hc.2.1 (fun q => cD (dd.mp q)) cK
      obtain ⟨y1, y2, y3⟩ := hd.2.1 cD cK
      exact ⟨by omega, zu_T3_same hx h x3 (by omega) y3 hw hk hb cf hr⟩
/-- the latest goes -/
theorem zu_T3_unorder {σ τ ρ π : zq_S} {r s : Int} (hx : zx_T ρ) (b32 : σ 3 2 = ρ 0 2) (h : zu_T3 σ ρ) (hc : (σ 3 3 = 0 → r = -2 ∧ τ 3 3 = 0) ∧ (σ 3 3 ≠ 0 → r = σ 3 3 - 1 ∧ τ 3 3 = σ 3 3 - 1)) (hm : (σ 3 3 = 0 → ∀ i, τ 11 i = σ 11 i) ∧ (σ 3 3 ≠ 0 → zt_mark σ τ (zx_p2 (σ 3 2)) (σ (σ 10 (σ 3 3 - 1)) 1) (σ (σ 10 (σ 3 3 - 1)) 2) (-1))) (hd : (ρ 0 3 = 0 → s = -2 ∧ π 0 3 = 0) ∧ (ρ 0 3 ≠ 0 → s = ρ 0 3 - 1 ∧ π 0 3 = ρ 0 3 - 1)) (c34 : τ 3 4 = σ 3 4) (c35 : τ 3 5 = σ 3 5) (c10 : ∀ i, τ 10 i = σ 10 i) (cc : ∀ o, 0 ≤ o → o < 20 → zu_cf σ τ (σ 10 o)) (r18 : π 0 18 = ρ 0 18) (hw : π 0 0 = ρ 0 0) (hk : π 0 1 = ρ 0 1) (hb : π 0 2 = ρ 0 2) (hr : ∀ o, 0 ≤ o → o < ρ 0 3 → zu_r1 ρ π o) : r = s ∧ zu_T3 τ π := by
  obtain ⟨⟨a1, a2⟩, a3, a4, a5, a6⟩ := id h
  have zb := zx_g2 hx
  have b12 : ρ 0 2 ≤ 12 := by omega
  have z3 := zx_g3 hx
  by_cases c0 : ρ 0 3 = 0
  · have c0' : σ 3 3 = 0 := by omega
    obtain ⟨x1, x2⟩ := hc.1 c0'
    obtain ⟨y1, y2⟩ := hd.1 c0
    exact ⟨by omega, zu_T3_same hx h ⟨by omega, c35, c10, hm.1 c0'⟩ (by omega) (by omega) hw hk hb (fun o o0 o1 => cc o o0 (by omega)) hr⟩
  · have c0' : σ 3 3 ≠ 0 := by omega
    obtain ⟨x1, x2⟩ := hc.2 c0'
    obtain ⟨y1, y2⟩ := hd.2 c0
    have mk := hm.2 c0'
    rw [b32, a1] at mk
    have lk := (a4 (ρ 0 3 - 1) (by omega) (by omega)).2.1
    refine ⟨by omega, ⟨by omega, by omega⟩, fun i i0 i1 => ?_, fun o o0 o1 => ?_, fun o p o0 o1 p1 => ?_, fun n n0 n1 => ?_⟩
    · rw [c10, c35]
      exact ⟨(a3 i i0 i1).1, fun j j0 j1 e => (a3 i i0 i1).2 j j0 j1 (by rw [c10] at e; exact e)⟩
    · rw [c10]
      exact zu_or_fr (cc o o0 (by omega)) (hr o o0 (by omega)) hw hk hb b12 (by have := zx_ga5 hx o; omega) (a4 o o0 (by omega))
    · rw [hb]
      exact fun q => a5 o p o0 o1 (by omega) ((zt_co_c (zu_r1_L b12 (hr o o0 (by omega))) (zu_r1_L b12 (hr p (by omega) (by omega)))).mp q)
    · rw [hb] at n1
      have tq := mk n
      have hi := zt_is_iff (L := zt_L ρ (ρ 0 3 - 1)) (b := ρ 0 2) (x := n) (m := σ (σ 10 (ρ 0 3 - 1)) 1) (v := σ (σ 10 (ρ 0 3 - 1)) 2) (by omega) b12 ⟨n0, n1⟩ (fun i _ _ => (zx_ga2 hx _).1) lk.1 lk.2.1
      have old := a6 n n0 n1
      unfold zu_bb
      rw [hb, y2]
      by_cases c : 0 ≤ n ∧ n < zx_p2 (ρ 0 2) ∧ zq_and n (σ (σ 10 (ρ 0 3 - 1)) 1) = σ (σ 10 (ρ 0 3 - 1)) 2
      · rw [if_pos c] at tq
        rw [tq]
        refine ⟨fun _ => ⟨rfl, fun o o0 o1 g => ?_⟩, fun q => absurd q (by decide)⟩
        exact a5 o (ρ 0 3 - 1) o0 o1 (by omega) (zt_is_co ((zt_is_c (zu_r1_L b12 (hr o o0 (by omega)))).mp g) (hi.mp c.2.2))
      · rw [if_neg c] at tq
        rw [tq]
        have ni : ¬ zt_is (zt_L ρ (ρ 0 3 - 1)) (ρ 0 2) n := fun q => c ⟨n0, n1, hi.mpr q⟩
        refine ⟨fun q => ⟨(old.1 q).1, fun o o0 o1 g => (old.1 q).2 o o0 (by omega) ((zt_is_c (zu_r1_L b12 (hr o o0 (by omega)))).mp g)⟩, fun q => ?_⟩
        obtain ⟨g1, g2⟩ := old.2 q
        have ne : σ 11 n ≠ ρ 0 3 - 1 := fun e => ni (by rw [← e]; exact g2)
        exact ⟨by omega, (zt_is_c (zu_r1_L b12 (hr _ q g1))).mpr g2⟩
