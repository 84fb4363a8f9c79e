set_option maxHeartbeats 800000 in
theorem c_X11_put_2 {σ : zq_S} (hσ : zc_T σ) (place : Int) (bits : Int) (q0 : zq_in place) (q1 : zq_in bits) (Uσ : zc_U σ) : zq_C zc_w yX11_put cX11_put 4 (some .int) 2 41 284 284 [ZR 0, ZI place, ZI bits] σ (zq_pi (fun r τ => zc_T τ ∧ zc_Fr [(139, -1)] σ τ ∧ (True) ∧ zq_hid (zu_pt place bits (zx_p2 (σ 3 2)) r (σ 139) (τ 139)) ∧ zc_U τ)) := by
  refine zq_C_of (by decide) (Nat.le_refl _) (Nat.le_of_ble_eq_true rfl) [some (ZR 0), some (ZI place), some (ZI bits), none] rfl (fun V hV => ?_)
  have hFσ := zc_Fr_rf [(139, -1)] σ
  show V 0 [some (ZR 0), some (ZI place), some (ZI bits), none] [] 284 σ
  refine zr_iload_n (pc := 0) hV dX11_put_0 rfl rfl ?_
  refine zr_callSp (pc := 1) hV [ZI place] (st := []) (c_X11_isPlace (σ := σ) place (by omega)) dX11_put_1 mX11_173 (by decide) (Nat.le_of_ble_eq_true rfl) (Nat.le_refl _) (fun r1 hr1 pr1 => ?_)
  refine zr_if_eq (pc := 4) hV 18 dX11_put_4 (by decide) (by omega) (fun c1 => ?_) (fun c1 => ?_)
  · show V 18 [some (ZR 0), some (ZI place), some (ZI bits), none] [] 284 σ
    refine zr_iconst (pc := 18) hV (-1) dX11_put_18 rfl ?_
    exact zr_iret (pc := 19) hV dX11_put_19 rfl rfl ⟨_, rfl, ⟨by decide, by decide⟩, hσ, hFσ, trivial, (show zu_pt place bits (zx_p2 (σ 3 2)) ((-1) : Int) (σ 139) (σ 139) from ⟨fun h => absurd h (by omega), fun _ => ⟨rfl, fun _ => rfl⟩⟩), Uσ⟩
  · show V 7 [some (ZR 0), some (ZI place), some (ZI bits), none] [] 284 σ
    refine zr_aload_n (pc := 7) hV dX11_put_7 rfl rfl ?_
    refine zr_getR (pc := 8) hV 1 3 dX11_put_8 fX11_19 rfl rfl (zc_k0 zc_s0) (zc_pos zc_s0 rfl) (zc_g0_1 hσ zc_s0) (by decide) ?_
    refine zr_iload_n (pc := 11) hV dX11_put_11 rfl rfl ?_
    refine zr_callVp (pc := 12) hV [ZI bits] (st := []) (c_X9_isBits_2 (σ := σ) hσ bits (by omega)) dX11_put_12 mX11_127 (zc_k3 zc_s3) (zc_pos zc_s3 rfl) (by decide) (Nat.le_of_ble_eq_true rfl) (Nat.le_refl _) (fun r12 hr12 pr12 => ?_)
    have t2 := zc_g3_2 hσ zc_s3
    refine zr_if_ne (pc := 15) hV 20 dX11_put_15 (by decide) (by omega) (fun c3 => ?_) (fun c3 => ?_)
    · show V 20 [some (ZR 0), some (ZI place), some (ZI bits), none] [] 284 σ
      refine zr_aload_n (pc := 20) hV dX11_put_20 rfl rfl ?_
      refine zr_getR (pc := 21) hV 4 139 dX11_put_21 fX11_39 rfl rfl (zc_k0 zc_s0) (zc_pos zc_s0 rfl) (zc_g0_4 hσ zc_s0) (by decide) ?_
      refine zr_iload_n (pc := 24) hV dX11_put_24 rfl rfl ?_
      refine zr_iald (pc := 25) hV dX11_put_25 (zc_k139 zc_s139) (zc_pos zc_s139 rfl) rfl (by omega) ?_
      have t4 := zc_ga139 hσ zc_s139 place
      refine zr_istore_n (pc := 26) hV [some (ZR 0), some (ZI place), some (ZI bits), some (ZI (σ 139 place))] dX11_put_26 rfl (by decide) rfl rfl ?_
      refine zr_aload_n (pc := 27) hV dX11_put_27 rfl rfl ?_
      refine zr_getR (pc := 28) hV 4 139 dX11_put_28 fX11_39 rfl rfl (zc_k0 zc_s0) (zc_pos zc_s0 rfl) (zc_g0_4 hσ zc_s0) (by decide) ?_
      refine zr_iload_n (pc := 31) hV dX11_put_31 rfl rfl ?_
      refine zr_iload_n (pc := 32) hV dX11_put_32 rfl rfl ?_
      refine zr_iast (pc := 33) hV dX11_put_33 (zc_k139 zc_s139) (zc_pos zc_s139 rfl) rfl (by omega) (fun σ33 eσ33 => ?_)
      have hσ33 : zc_T σ33 := zc_ua139 eσ33 hσ zc_s139 (by omega)
      have hFσ33 := zc_Fa eσ33 zc_s139 rfl hFσ
      have Uσ33 : zc_U σ33 := zc_U_fr (zc_Fa eσ33 zc_s139 rfl (zc_Fr_rf [(139, -1)] _)) rfl hσ Uσ
      refine zr_iload_n (pc := 34) hV dX11_put_34 rfl rfl ?_
      exact zr_iret (pc := 35) hV dX11_put_35 rfl rfl ⟨_, rfl, (by omega), hσ33, hFσ33, trivial, (show zu_pt place bits (zx_p2 (σ 3 2)) (σ 139 place) (σ 139) (σ33 139) from ⟨fun _ => ⟨rfl, fun i => if hc : i = place then (by rw [hc, eσ33, zq_up_same, if_pos rfl]) else (by rw [eσ33, zq_up_ne (by omega), if_neg hc])⟩, fun h => absurd (by omega) h⟩), Uσ33⟩
    · show V 18 [some (ZR 0), some (ZI place), some (ZI bits), none] [] 284 σ
      refine zr_iconst (pc := 18) hV (-1) dX11_put_18 rfl ?_
      exact zr_iret (pc := 19) hV dX11_put_19 rfl rfl ⟨_, rfl, ⟨by decide, by decide⟩, hσ, hFσ, trivial, (show zu_pt place bits (zx_p2 (σ 3 2)) ((-1) : Int) (σ 139) (σ 139) from ⟨fun h => absurd h (by omega), fun _ => ⟨rfl, fun _ => rfl⟩⟩), Uσ⟩
set_option maxHeartbeats 800000 in
theorem c_X11_takeBits_2 {σ : zq_S} (hσ : zc_T σ) (row : Int) (krow : zc_kd row = 280) (from_ : Int) (place : Int) (n : Int) (q0 : 0 ≤ from_ ∧ from_ ≤ 30) (q1 : 0 ≤ place ∧ place ≤ 63) (q2 : 0 ≤ n ∧ n ≤ 30) (q3 : from_ + n ≤ 30) (q4 : place + n ≤ 64) : zq_C zc_w yX11_takeBits cX11_takeBits 6 (some .int) 2 60 284 284 [ZR 0, ZR row, ZI from_, ZI place, ZI n] σ (zq_pi (fun r τ => zc_T τ ∧ zc_Fr [(139, -1)] σ τ ∧ (True) ∧ zq_hid (((∀ i, 0 ≤ i → i < n → 0 ≤ σ row (from_ + i) ∧ σ row (from_ + i) < zx_p2 (σ 3 2)) → r = n ∧ ∀ i, τ 139 i = if place ≤ i ∧ i < place + n then σ row (from_ + (i - place)) else σ 139 i) ∧ (¬ (∀ i, 0 ≤ i → i < n → 0 ≤ σ row (from_ + i) ∧ σ row (from_ + i) < zx_p2 (σ 3 2)) → r = -2 ∧ ∀ i, τ 139 i = σ 139 i)))) := by
  refine zq_C_of (by decide) (Nat.le_refl _) (Nat.le_of_ble_eq_true rfl) [some (ZR 0), some (ZR row), some (ZI from_), some (ZI place), some (ZI n), none] rfl (fun V hV => ?_)
  have porow := zc_pos krow rfl
  have hFσ := zc_Fr_rf [(139, -1)] σ
  show V 0 [some (ZR 0), some (ZR row), some (ZI from_), some (ZI place), some (ZI n), none] [] 284 σ
  refine zr_iconst (pc := 0) hV 0 dX11_takeBits_0 rfl ?_
  refine zr_istore (pc := 1) hV [some (ZR 0), some (ZR row), some (ZI from_), some (ZI place), some (ZI n), some (ZI 0)] dX11_takeBits_1 (by decide) rfl rfl ?_
  have L3 : ∀ (fuel : Nat) (x5_3 : Int), (0 ≤ x5_3 ∧ x5_3 ≤ 30) → (zq_hid (∀ i, 0 ≤ i → i < x5_3 → 0 ≤ σ row (from_ + i) ∧ σ row (from_ + i) < zx_p2 (σ 3 2))) → 30 - x5_3 < (fuel : Int) → V 3 [some (ZR 0), some (ZR row), some (ZI from_), some (ZI place), some (ZI n), some (ZI x5_3)] [] 284 σ := by
    intro fuel
    induction fuel with
    | zero =>
      intro x5_3 hx5_3 hi3_0 hm3
      exfalso; omega
    | succ fuel ih =>
      intro x5_3 hx5_3 hi3_0 hm3
      have ih3 := ih
      show V 3 [some (ZR 0), some (ZR row), some (ZI from_), some (ZI place), some (ZI n), some (ZI x5_3)] [] 284 σ
      refine zr_iload (pc := 3) hV dX11_takeBits_3 rfl ?_
      refine zr_iload (pc := 5) hV dX11_takeBits_5 rfl ?_
      refine zr_icmp_ge (pc := 7) hV 35 dX11_takeBits_7 (by decide) (by omega) (by omega) (fun c1 => ?_) (fun c1 => ?_)
      · show V 35 [some (ZR 0), some (ZR row), some (ZI from_), some (ZI place), some (ZI n), some (ZI x5_3)] [] 284 σ
        refine zr_aload_n (pc := 35) hV dX11_takeBits_35 rfl rfl ?_
        refine zr_iload_n (pc := 36) hV dX11_takeBits_36 rfl rfl ?_
        refine zr_aload_n (pc := 37) hV dX11_takeBits_37 rfl rfl ?_
        refine zr_getR (pc := 38) hV 4 139 dX11_takeBits_38 fX11_39 rfl rfl (zc_k0 zc_s0) (zc_pos zc_s0 rfl) (zc_g0_4 hσ zc_s0) (by decide) ?_
        refine zr_iload_n (pc := 41) hV dX11_takeBits_41 rfl rfl ?_
        refine zr_iload (pc := 42) hV dX11_takeBits_42 rfl ?_
        refine zr_copy (pc := 44) hV dX11_takeBits_44 lX11_294 lcp_nat lcp_stat lcp_ini (zc_k280 krow) (zc_k139 zc_s139) (zc_pos krow rfl) (zc_pos zc_s139 rfl) rfl rfl (by omega) (by omega) (by omega) rfl rfl (fun σ44 eσ44 => ?_)
        have hσ44 : zc_T σ44 := zc_Tcell eσ44 hσ zc_s139 (fun i => by split; exact zc_ga280 hσ krow _; exact zc_ga139 hσ zc_s139 _)
        have hFσ44 := zc_Fcell eσ44 zc_s139 rfl hFσ
        refine zr_iload (pc := 47) hV dX11_takeBits_47 rfl ?_
        exact zr_iret (pc := 49) hV dX11_takeBits_49 rfl rfl ⟨_, rfl, (by omega), hσ44, hFσ44, trivial, (show ((∀ i, 0 ≤ i → i < n → 0 ≤ σ row (from_ + i) ∧ σ row (from_ + i) < zx_p2 (σ 3 2)) → n = n ∧ ∀ i, σ44 139 i = if place ≤ i ∧ i < place + n then σ row (from_ + (i - place)) else σ 139 i) ∧ (¬ (∀ i, 0 ≤ i → i < n → 0 ≤ σ row (from_ + i) ∧ σ row (from_ + i) < zx_p2 (σ 3 2)) → n = -2 ∧ ∀ i, σ44 139 i = σ 139 i) from ⟨fun _ => ⟨rfl, fun i => by rw [eσ44, zq_cell_s]⟩, fun h => absurd (fun i i0 i1 => hi3_0 i i0 (by omega)) h⟩)⟩
      · show V 10 [some (ZR 0), some (ZR row), some (ZI from_), some (ZI place), some (ZI n), some (ZI x5_3)] [] 284 σ
        refine zr_aload_n (pc := 10) hV dX11_takeBits_10 rfl rfl ?_
        refine zr_getR (pc := 11) hV 1 3 dX11_takeBits_11 fX11_19 rfl rfl (zc_k0 zc_s0) (zc_pos zc_s0 rfl) (zc_g0_1 hσ zc_s0) (by decide) ?_
        refine zr_aload_n (pc := 14) hV dX11_takeBits_14 rfl rfl ?_
        refine zr_iload_n (pc := 15) hV dX11_takeBits_15 rfl rfl ?_
        refine zr_iload (pc := 16) hV dX11_takeBits_16 rfl ?_
        refine zr_iadd (pc := 18) hV dX11_takeBits_18 ?_
        refine zr_iald (pc := 19) hV dX11_takeBits_19 (zc_k280 krow) (zc_pos krow rfl) rfl (by omega) ?_
        have t2 := zc_ga280 hσ krow (from_ + x5_3)
        refine zr_callVp (pc := 20) hV [ZI (σ row (from_ + x5_3))] (st := []) (c_X9_isBits_2 (σ := σ) hσ (σ row (from_ + x5_3)) (by omega)) dX11_takeBits_20 mX11_127 (zc_k3 zc_s3) (zc_pos zc_s3 rfl) (by decide) (Nat.le_of_ble_eq_true rfl) (Nat.le_refl _) (fun r20 hr20 pr20 => ?_)
        have t3 := zc_g3_2 hσ zc_s3
        refine zr_if_ne (pc := 23) hV 29 dX11_takeBits_23 (by decide) (by omega) (fun c4 => ?_) (fun c4 => ?_)
        · show V 29 [some (ZR 0), some (ZR row), some (ZI from_), some (ZI place), some (ZI n), some (ZI x5_3)] [] 284 σ
          refine zr_iinc (pc := 29) hV [some (ZR 0), some (ZR row), some (ZI from_), some (ZI place), some (ZI n), some (ZI (x5_3 + 1))] (x5_3 + 1) dX11_takeBits_29 rfl rfl (by decide) rfl rfl ?_
          refine zr_goto (pc := 32) hV 3 dX11_takeBits_32 (by decide) ?_
          have t5 := zc_g3_2 hσ zc_s3
          exact ih3 (x5_3 + 1) (by omega) (fun i i0 i1 => if hc : i = x5_3 then (by rw [hc]; exact pr20.2.2.mp (by omega)) else hi3_0 i i0 (by omega)) (by omega)
        · show V 26 [some (ZR 0), some (ZR row), some (ZI from_), some (ZI place), some (ZI n), some (ZI x5_3)] [] 284 σ
          refine zr_bipush (pc := 26) hV (-2) dX11_takeBits_26 (by decide) ?_
          exact zr_iret (pc := 28) hV dX11_takeBits_28 rfl rfl ⟨_, rfl, ⟨by decide, by decide⟩, hσ, hFσ, trivial, (show ((∀ i, 0 ≤ i → i < n → 0 ≤ σ row (from_ + i) ∧ σ row (from_ + i) < zx_p2 (σ 3 2)) → ((-2) : Int) = n ∧ ∀ i, σ 139 i = if place ≤ i ∧ i < place + n then σ row (from_ + (i - place)) else σ 139 i) ∧ (¬ (∀ i, 0 ≤ i → i < n → 0 ≤ σ row (from_ + i) ∧ σ row (from_ + i) < zx_p2 (σ 3 2)) → ((-2) : Int) = -2 ∧ ∀ i, σ 139 i = σ 139 i) from ⟨fun h => absurd (h x5_3 (by omega) (by omega)) (fun q => absurd (pr20.2.2.mpr q) (by omega)), fun _ => ⟨rfl, fun _ => rfl⟩⟩)⟩
  have t6 := zc_g3_2 hσ zc_s3
  exact L3 (30 - (0 : Int) + 1 : Int).toNat 0 (by omega) (fun i i0 i1 => absurd i1 (by omega)) (by omega)
set_option maxHeartbeats 800000 in
theorem c_X11_load_2 {σ : zq_S} (hσ : zc_T σ) (sheet : Int) (lane : Int) (from_ : Int) (place : Int) (n : Int) (q0 : zq_in sheet) (q1 : zq_in lane) (q2 : zq_in from_) (q3 : zq_in place) (q4 : zq_in n) (Uσ : zc_U σ) : zq_C zc_w yX11_load cX11_load 7 (some .int) 3 85 284 284 [ZR 0, ZI sheet, ZI lane, ZI from_, ZI place, ZI n] σ (zq_pi (fun r τ => zc_T τ ∧ zc_Fr [(139, -1)] σ τ ∧ (True) ∧ zq_hid (zu_lc sheet lane from_ place n (zx_p2 (σ 3 2)) (σ 277) (σ 278) (σ (280 + sheet)) (σ 139) (τ 139)) ∧ zc_U τ)) := by
  refine zq_C_of (by decide) (Nat.le_refl _) (Nat.le_of_ble_eq_true rfl) [some (ZR 0), some (ZI sheet), some (ZI lane), some (ZI from_), some (ZI place), some (ZI n), none] rfl (fun V hV => ?_)
  have hFσ := zc_Fr_rf [(139, -1)] σ
  show V 0 [some (ZR 0), some (ZI sheet), some (ZI lane), some (ZI from_), some (ZI place), some (ZI n), none] [] 284 σ
  refine zr_iload_n (pc := 0) hV dX11_load_0 rfl rfl ?_
  refine zr_callSp (pc := 1) hV [ZI sheet] (st := []) (c_X5_isSheet (σ := σ) sheet (by omega)) dX11_load_1 mX11_273 (by decide) (Nat.le_of_ble_eq_true rfl) (Nat.le_refl _) (fun r1 hr1 pr1 => ?_)
  refine zr_if_eq (pc := 4) hV 43 dX11_load_4 (by decide) (by omega) (fun c1 => ?_) (fun c1 => ?_)
  · show V 43 [some (ZR 0), some (ZI sheet), some (ZI lane), some (ZI from_), some (ZI place), some (ZI n), none] [] 284 σ
    refine zr_iconst (pc := 43) hV (-1) dX11_load_43 rfl ?_
    exact zr_iret (pc := 44) hV dX11_load_44 rfl rfl ⟨_, rfl, ⟨by decide, by decide⟩, hσ, hFσ, trivial, (show zu_lc sheet lane from_ place n (zx_p2 (σ 3 2)) (σ 277) (σ 278) (σ (280 + sheet)) (σ 139) (σ 139) from (zu_lc_n (by by_cases hn : n = 0; exact Or.inr hn; exact Or.inl (fun q => by obtain ⟨q1, q2, q3, -⟩ := q; omega)) (fun _ => rfl))), Uσ⟩
  · show V 7 [some (ZR 0), some (ZI sheet), some (ZI lane), some (ZI from_), some (ZI place), some (ZI n), none] [] 284 σ
    refine zr_iload_n (pc := 7) hV dX11_load_7 rfl rfl ?_
    refine zr_callSp (pc := 8) hV [ZI lane] (st := []) (c_X5_isLane (σ := σ) lane (by omega)) dX11_load_8 mX11_276 (by decide) (Nat.le_of_ble_eq_true rfl) (Nat.le_refl _) (fun r8 hr8 pr8 => ?_)
    refine zr_if_eq (pc := 11) hV 43 dX11_load_11 (by decide) (by omega) (fun c2 => ?_) (fun c2 => ?_)
    · show V 43 [some (ZR 0), some (ZI sheet), some (ZI lane), some (ZI from_), some (ZI place), some (ZI n), none] [] 284 σ
      refine zr_iconst (pc := 43) hV (-1) dX11_load_43 rfl ?_
      exact zr_iret (pc := 44) hV dX11_load_44 rfl rfl ⟨_, rfl, ⟨by decide, by decide⟩, hσ, hFσ, trivial, (show zu_lc sheet lane from_ place n (zx_p2 (σ 3 2)) (σ 277) (σ 278) (σ (280 + sheet)) (σ 139) (σ 139) from (zu_lc_n (by by_cases hn : n = 0; exact Or.inr hn; exact Or.inl (fun q => by obtain ⟨q1, q2, q3, -⟩ := q; omega)) (fun _ => rfl))), Uσ⟩
    · show V 14 [some (ZR 0), some (ZI sheet), some (ZI lane), some (ZI from_), some (ZI place), some (ZI n), none] [] 284 σ
      refine zr_iload (pc := 14) hV dX11_load_14 rfl ?_
      refine zr_iconst (pc := 16) hV 0 dX11_load_16 rfl ?_
      refine zr_bipush (pc := 17) hV 30 dX11_load_17 (by decide) ?_
      refine zr_callSp (pc := 19) hV [ZI n, ZI 0, ZI 30] (st := []) (c_X11_within (σ := σ) n 0 30 (by omega) (by omega) (by omega)) dX11_load_19 mX11_89 (by decide) (Nat.le_of_ble_eq_true rfl) (Nat.le_refl _) (fun r19 hr19 pr19 => ?_)
      refine zr_if_eq (pc := 22) hV 43 dX11_load_22 (by decide) (by omega) (fun c3 => ?_) (fun c3 => ?_)
      · show V 43 [some (ZR 0), some (ZI sheet), some (ZI lane), some (ZI from_), some (ZI place), some (ZI n), none] [] 284 σ
        refine zr_iconst (pc := 43) hV (-1) dX11_load_43 rfl ?_
        exact zr_iret (pc := 44) hV dX11_load_44 rfl rfl ⟨_, rfl, ⟨by decide, by decide⟩, hσ, hFσ, trivial, (show zu_lc sheet lane from_ place n (zx_p2 (σ 3 2)) (σ 277) (σ 278) (σ (280 + sheet)) (σ 139) (σ 139) from (zu_lc_n (by by_cases hn : n = 0; exact Or.inr hn; exact Or.inl (fun q => by obtain ⟨q1, q2, q3, -⟩ := q; omega)) (fun _ => rfl))), Uσ⟩
      · show V 25 [some (ZR 0), some (ZI sheet), some (ZI lane), some (ZI from_), some (ZI place), some (ZI n), none] [] 284 σ
        refine zr_iload (pc := 25) hV dX11_load_25 rfl ?_
        refine zr_callSp (pc := 27) hV [ZI place] (st := []) (c_X11_isPlace (σ := σ) place (by omega)) dX11_load_27 mX11_173 (by decide) (Nat.le_of_ble_eq_true rfl) (Nat.le_refl _) (fun r27 hr27 pr27 => ?_)
        refine zr_if_eq (pc := 30) hV 43 dX11_load_30 (by decide) (by omega) (fun c4 => ?_) (fun c4 => ?_)
        · show V 43 [some (ZR 0), some (ZI sheet), some (ZI lane), some (ZI from_), some (ZI place), some (ZI n), none] [] 284 σ
          refine zr_iconst (pc := 43) hV (-1) dX11_load_43 rfl ?_
          exact zr_iret (pc := 44) hV dX11_load_44 rfl rfl ⟨_, rfl, ⟨by decide, by decide⟩, hσ, hFσ, trivial, (show zu_lc sheet lane from_ place n (zx_p2 (σ 3 2)) (σ 277) (σ 278) (σ (280 + sheet)) (σ 139) (σ 139) from (zu_lc_n (by by_cases hn : n = 0; exact Or.inr hn; exact Or.inl (fun q => by obtain ⟨q1, q2, q3, -⟩ := q; omega)) (fun _ => rfl))), Uσ⟩
        · show V 33 [some (ZR 0), some (ZI sheet), some (ZI lane), some (ZI from_), some (ZI place), some (ZI n), none] [] 284 σ
          refine zr_iload (pc := 33) hV dX11_load_33 rfl ?_
          refine zr_iload (pc := 35) hV dX11_load_35 rfl ?_
          refine zr_iadd (pc := 37) hV dX11_load_37 ?_
          refine zr_bipush (pc := 38) hV 64 dX11_load_38 (by decide) ?_
          refine zr_icmp_le (pc := 40) hV 45 dX11_load_40 (by decide) (by omega) ⟨by decide, by decide⟩ (fun c5 => ?_) (fun c5 => ?_)
          · show V 45 [some (ZR 0), some (ZI sheet), some (ZI lane), some (ZI from_), some (ZI place), some (ZI n), none] [] 284 σ
            refine zr_aload_n (pc := 45) hV dX11_load_45 rfl rfl ?_
            refine zr_getR (pc := 46) hV 7 276 dX11_load_46 fX11_64 rfl rfl (zc_k0 zc_s0) (zc_pos zc_s0 rfl) (zc_g0_7 hσ zc_s0) (by decide) ?_
            refine zr_iload_n (pc := 49) hV dX11_load_49 rfl rfl ?_
            refine zr_iload_n (pc := 50) hV dX11_load_50 rfl rfl ?_
            refine zr_iload_n (pc := 51) hV dX11_load_51 rfl rfl ?_
            refine zr_iload (pc := 52) hV dX11_load_52 rfl ?_
            refine zr_callVp (pc := 54) hV [ZI sheet, ZI lane, ZI from_, ZI n] (st := []) (c_X5_refusal_2 (σ := σ) hσ sheet lane from_ n (by omega) (by omega) (by omega) (by omega)) dX11_load_54 mX11_279 (zc_k276 zc_s276) (zc_pos zc_s276 rfl) (by decide) (Nat.le_of_ble_eq_true rfl) (Nat.le_refl _) (fun r54 hr54 pr54 => ?_)
            refine zr_istore (pc := 57) hV [some (ZR 0), some (ZI sheet), some (ZI lane), some (ZI from_), some (ZI place), some (ZI n), some (ZI r54)] dX11_load_57 (by decide) rfl rfl ?_
            refine zr_iload (pc := 59) hV dX11_load_59 rfl ?_
            refine zr_if_ge (pc := 61) hV 67 dX11_load_61 (by decide) (by omega) (fun c6 => ?_) (fun c6 => ?_)
            · show V 67 [some (ZR 0), some (ZI sheet), some (ZI lane), some (ZI from_), some (ZI place), some (ZI n), some (ZI r54)] [] 284 σ
              refine zr_aload_n (pc := 67) hV dX11_load_67 rfl rfl ?_
              refine zr_aload_n (pc := 68) hV dX11_load_68 rfl rfl ?_
              refine zr_getR (pc := 69) hV 7 276 dX11_load_69 fX11_64 rfl rfl (zc_k0 zc_s0) (zc_pos zc_s0 rfl) (zc_g0_7 hσ zc_s0) (by decide) ?_
              refine zr_getR (pc := 72) hV 2 279 dX11_load_72 fX11_283 rfl rfl (zc_k276 zc_s276) (zc_pos zc_s276 rfl) (zc_g276_2 hσ zc_s276) (by decide) ?_
              refine zr_iload_n (pc := 75) hV dX11_load_75 rfl rfl ?_
              have ga76 : σ 279 sheet = 280 + sheet := zc_ga279 hσ zc_s279 sheet (by omega) (by omega)
              refine zr_aald (pc := 76) hV dX11_load_76 (zc_k279 zc_s279) (Or.inr rfl) (zc_pos zc_s279 rfl) rfl (by omega) (by omega) ?_
              obtain ⟨o76, eo76⟩ : ∃ o, σ 279 sheet = o := ⟨_, rfl⟩
              rw [eo76] at ga76 ⊢
              have ko76 : zc_kd o76 = 280 := ga76 ▸ zc_e280 (by omega) (by omega)
              have po76 := zc_pos ko76 rfl
              show V 77 [some (ZR 0), some (ZI sheet), some (ZI lane), some (ZI from_), some (ZI place), some (ZI n), some (ZI r54)] [ZR o76, ZR 0] 284 σ
              refine zr_iload_n (pc := 77) hV dX11_load_77 rfl rfl ?_
              refine zr_iload (pc := 78) hV dX11_load_78 rfl ?_
              refine zr_iload (pc := 80) hV dX11_load_80 rfl ?_
              refine zr_callVi (pc := 82) hV [ZR o76, ZI from_, ZI place, ZI n] (st := []) (c_X11_takeBits_2 (σ := σ) hσ o76 ko76 from_ place n (by omega) (by omega) (by omega) (by omega) (by omega)) dX11_load_82 mX11_291 (zc_k0 zc_s0) (zc_pos zc_s0 rfl) (by decide) (Nat.le_of_ble_eq_true rfl) (Nat.le_refl _) (fun r82 σ82 hr82 pσ82 => ?_)
              obtain ⟨hσ82, hfσ82, pσ82, wσ82⟩ := pσ82
              have hFσ82 := zc_Fc hfσ82 rfl hFσ
              have Uσ82 : zc_U σ82 := zc_U_fr hfσ82 rfl hσ Uσ
              have t7 := zc_g3_2 hσ zc_s3
              exact zr_iret (pc := 85) hV dX11_load_85 rfl rfl ⟨_, rfl, (by omega), hσ82, hFσ82, trivial, (show zu_lc sheet lane from_ place n (zx_p2 (σ 3 2)) (σ 277) (σ 278) (σ (280 + sheet)) (σ 139) (σ82 139) from (by have w := wσ82; unfold zq_hid at w; rw [ga76] at w; by_cases hc : ∀ i, 0 ≤ i → i < n → 0 ≤ σ (280 + sheet) (from_ + i) ∧ σ (280 + sheet) (from_ + i) < zx_p2 (σ 3 2); (exact zu_lc_y ⟨by omega, by omega, by omega, hc⟩ (fun i _ _ => (w.1 hc).2 i)); (exact zu_lc_n (Or.inl (fun q => hc q.2.2.2)) (w.2 hc).2))), Uσ82⟩
            · show V 64 [some (ZR 0), some (ZI sheet), some (ZI lane), some (ZI from_), some (ZI place), some (ZI n), some (ZI r54)] [] 284 σ
              refine zr_iload (pc := 64) hV dX11_load_64 rfl ?_
              exact zr_iret (pc := 66) hV dX11_load_66 rfl rfl ⟨_, rfl, (by omega), hσ, hFσ, trivial, (show zu_lc sheet lane from_ place n (zx_p2 (σ 3 2)) (σ 277) (σ 278) (σ (280 + sheet)) (σ 139) (σ 139) from (zu_lc_n (by by_cases hn : n = 0; exact Or.inr hn; exact Or.inl (fun q => by obtain ⟨q1, q2, q3, -⟩ := q; omega)) (fun _ => rfl))), Uσ⟩
          · show V 43 [some (ZR 0), some (ZI sheet), some (ZI lane), some (ZI from_), some (ZI place), some (ZI n), none] [] 284 σ
            refine zr_iconst (pc := 43) hV (-1) dX11_load_43 rfl ?_
            exact zr_iret (pc := 44) hV dX11_load_44 rfl rfl ⟨_, rfl, ⟨by decide, by decide⟩, hσ, hFσ, trivial, (show zu_lc sheet lane from_ place n (zx_p2 (σ 3 2)) (σ 277) (σ 278) (σ (280 + sheet)) (σ 139) (σ 139) from (zu_lc_n (by by_cases hn : n = 0; exact Or.inr hn; exact Or.inl (fun q => by obtain ⟨q1, q2, q3, -⟩ := q; omega)) (fun _ => rfl))), Uσ⟩
set_option maxHeartbeats 800000 in
theorem c_X5_lay_3 {σ : zq_S} (hσ : zc_T σ) (sheet : Int) (lane : Int) (n : Int) (q0 : 0 ≤ sheet ∧ sheet ≤ 3) (q1 : 0 ≤ lane ∧ lane ≤ 2) (q2 : 0 ≤ n ∧ n ≤ 30) : zq_C zc_w yX5_lay cX5_lay 4 (some .int) 1 23 284 284 [ZR 276, ZI sheet, ZI lane, ZI n] σ (zq_pi (fun r τ => zc_T τ ∧ zc_Fr [(277, -1), (278, -1), (280, -1)] σ τ ∧ (r = n) ∧ zq_hid (((∀ j, τ 277 j = if j = sheet then lane else σ 277 j) ∧ (∀ j, τ 278 j = if j = sheet then n else σ 278 j)) ∧ (∀ s i, 0 ≤ s → s ≤ 3 → 0 ≤ i → i < 30 → τ (280 + s) i = if s = sheet then 0 else σ (280 + s) i)))) := by
  refine zq_C_of (by decide) (Nat.le_refl _) (Nat.le_of_ble_eq_true rfl) [some (ZR 276), some (ZI sheet), some (ZI lane), some (ZI n)] rfl (fun V hV => ?_)
  have hFσ := zc_Fr_rf [(277, -1), (278, -1), (280, -1)] σ
  show V 0 [some (ZR 276), some (ZI sheet), some (ZI lane), some (ZI n)] [] 284 σ
  refine zr_aload_n (pc := 0) hV dX5_lay_0 rfl rfl ?_
  refine zr_getR (pc := 1) hV 0 277 dX5_lay_1 fX5_11 rfl rfl (zc_k276 zc_s276) (zc_pos zc_s276 rfl) (zc_g276_0 hσ zc_s276) (by decide) ?_
  refine zr_iload_n (pc := 4) hV dX5_lay_4 rfl rfl ?_
  refine zr_iload_n (pc := 5) hV dX5_lay_5 rfl rfl ?_
  refine zr_iast (pc := 6) hV dX5_lay_6 (zc_k277 zc_s277) (zc_pos zc_s277 rfl) rfl (by omega) (fun σ6 eσ6 => ?_)
  have hσ6 : zc_T σ6 := zc_ua277 eσ6 hσ zc_s277 (by omega)
  have hFσ6 := zc_Fa eσ6 zc_s277 rfl hFσ
  refine zr_aload_n (pc := 7) hV dX5_lay_7 rfl rfl ?_
  refine zr_getR (pc := 8) hV 1 278 dX5_lay_8 fX5_15 rfl rfl (zc_k276 zc_s276) (zc_pos zc_s276 rfl) (zc_g276_1 hσ6 zc_s276) (by decide) ?_
  refine zr_iload_n (pc := 11) hV dX5_lay_11 rfl rfl ?_
  refine zr_iload_n (pc := 12) hV dX5_lay_12 rfl rfl ?_
  refine zr_iast (pc := 13) hV dX5_lay_13 (zc_k278 zc_s278) (zc_pos zc_s278 rfl) rfl (by omega) (fun σ13 eσ13 => ?_)
  have hσ13 : zc_T σ13 := zc_ua278 eσ13 hσ6 zc_s278 (by omega)
  have hFσ13 := zc_Fa eσ13 zc_s278 rfl hFσ6
  refine zr_aload_n (pc := 14) hV dX5_lay_14 rfl rfl ?_
  refine zr_getR (pc := 15) hV 2 279 dX5_lay_15 fX5_20 rfl rfl (zc_k276 zc_s276) (zc_pos zc_s276 rfl) (zc_g276_2 hσ13 zc_s276) (by decide) ?_
  refine zr_iload_n (pc := 18) hV dX5_lay_18 rfl rfl ?_
  have ga19 : σ13 279 sheet = 280 + sheet := zc_ga279 hσ13 zc_s279 sheet (by omega) (by omega)
  refine zr_aald (pc := 19) hV dX5_lay_19 (zc_k279 zc_s279) (Or.inr rfl) (zc_pos zc_s279 rfl) rfl (by omega) (by omega) ?_
  obtain ⟨o19, eo19⟩ : ∃ o, σ13 279 sheet = o := ⟨_, rfl⟩
  rw [eo19] at ga19 ⊢
  have ko19 : zc_kd o19 = 280 := ga19 ▸ zc_e280 (by omega) (by omega)
  have po19 := zc_pos ko19 rfl
  show V 20 [some (ZR 276), some (ZI sheet), some (ZI lane), some (ZI n)] [ZR o19] 284 σ13
  refine zr_iconst (pc := 20) hV 0 dX5_lay_20 rfl ?_
  refine zr_callSv (pc := 21) hV [ZR o19, ZI 0] (st := []) (c_fill (σ := σ13) hσ13 o19 0 ko19 rfl rfl ⟨by decide, by decide⟩ (fun _ => ⟨by omega, by omega⟩)) dX5_lay_21 mX5_23 (by decide) (Nat.le_of_ble_eq_true rfl) (Nat.le_refl _) (fun σ21 pσ21 => ?_)
  obtain ⟨hσ21, hfσ21, pσ21⟩ := pσ21
  have hFσ21 := zc_Fc hfσ21 rfl hFσ13
  refine zr_iload_n (pc := 24) hV dX5_lay_24 rfl rfl ?_
  exact zr_iret (pc := 25) hV dX5_lay_25 rfl rfl ⟨_, rfl, (by omega), hσ21, hFσ21, (by omega), (show ((∀ j, σ21 277 j = if j = sheet then lane else σ 277 j) ∧ (∀ j, σ21 278 j = if j = sheet then n else σ 278 j)) ∧ (∀ s i, 0 ≤ s → s ≤ 3 → 0 ≤ i → i < 30 → σ21 (280 + s) i = if s = sheet then 0 else σ (280 + s) i) from ⟨⟨fun j => if h : j = sheet then (by rw [if_pos h, h, hfσ21 277 _ (zc_out_ar zc_s277 rfl), eσ13, zq_up_ne (by omega), eσ6, zq_up_same]) else (by rw [if_neg h, hfσ21 277 _ (zc_out_ar zc_s277 rfl), eσ13, zq_up_ne (by omega), eσ6, zq_up_ne (by omega)]), fun j => if h : j = sheet then (by rw [if_pos h, h, hfσ21 278 _ (zc_out_ar zc_s278 rfl), eσ13, zq_up_same]) else (by rw [if_neg h, hfσ21 278 _ (zc_out_ar zc_s278 rfl), eσ13, zq_up_ne (by omega), eσ6, zq_up_ne (by omega)])⟩, (fun s i s0 s3 i0 i1 => if h : s = sheet then (by rw [if_pos h, h, ← ga19]; exact pσ21.1 i i0 (by omega)) else (by rw [if_neg h, pσ21.2 (280 + s) i (by omega), eσ13, zq_up_ne (by omega), eσ6, zq_up_ne (by omega)]))⟩)⟩
set_option maxHeartbeats 800000 in
theorem c_X11_sheet_3 {σ : zq_S} (hσ : zc_T σ) (sheet : Int) (lane : Int) (n : Int) (q0 : zq_in sheet) (q1 : zq_in lane) (q2 : zq_in n) (Uσ : zc_U σ) : zq_C zc_w yX11_sheet cX11_sheet 4 (some .int) 2 46 284 284 [ZR 0, ZI sheet, ZI lane, ZI n] σ (zq_pi (fun r τ => zc_T τ ∧ zc_Fr [(277, -1), (278, -1), (280, -1)] σ τ ∧ (((0 ≤ sheet ∧ sheet ≤ 3 ∧ 0 ≤ lane ∧ lane ≤ 2 ∧ n ≤ 30 ∧ n < 0 → r = -14) ∧ (0 ≤ sheet ∧ sheet ≤ 3 ∧ 0 ≤ lane ∧ lane ≤ 2 ∧ n ≤ 30 ∧ 0 ≤ n → r = n) ∧ (¬ (0 ≤ sheet ∧ sheet ≤ 3 ∧ 0 ≤ lane ∧ lane ≤ 2 ∧ n ≤ 30) → r = -1))) ∧ zq_hid (((∀ j, τ 277 j = if 0 ≤ sheet ∧ sheet ≤ 3 ∧ 0 ≤ lane ∧ lane ≤ 2 ∧ n ≤ 30 ∧ 0 ≤ n ∧ j = sheet then lane else σ 277 j) ∧ (∀ j, τ 278 j = if 0 ≤ sheet ∧ sheet ≤ 3 ∧ 0 ≤ lane ∧ lane ≤ 2 ∧ n ≤ 30 ∧ 0 ≤ n ∧ j = sheet then n else σ 278 j)) ∧ (∀ s i, 0 ≤ s → s ≤ 3 → 0 ≤ i → i < 30 → τ (280 + s) i = if 0 ≤ sheet ∧ sheet ≤ 3 ∧ 0 ≤ lane ∧ lane ≤ 2 ∧ n ≤ 30 ∧ 0 ≤ n ∧ s = sheet then 0 else σ (280 + s) i)) ∧ zc_U τ)) := by
  refine zq_C_of (by decide) (Nat.le_refl _) (Nat.le_of_ble_eq_true rfl) [some (ZR 0), some (ZI sheet), some (ZI lane), some (ZI n)] rfl (fun V hV => ?_)
  have hFσ := zc_Fr_rf [(277, -1), (278, -1), (280, -1)] σ
  show V 0 [some (ZR 0), some (ZI sheet), some (ZI lane), some (ZI n)] [] 284 σ
  refine zr_iload_n (pc := 0) hV dX11_sheet_0 rfl rfl ?_
  refine zr_callSp (pc := 1) hV [ZI sheet] (st := []) (c_X5_isSheet (σ := σ) sheet (by omega)) dX11_sheet_1 mX11_273 (by decide) (Nat.le_of_ble_eq_true rfl) (Nat.le_refl _) (fun r1 hr1 pr1 => ?_)
  refine zr_if_eq (pc := 4) hV 20 dX11_sheet_4 (by decide) (by omega) (fun c1 => ?_) (fun c1 => ?_)
  · show V 20 [some (ZR 0), some (ZI sheet), some (ZI lane), some (ZI n)] [] 284 σ
    refine zr_iconst (pc := 20) hV (-1) dX11_sheet_20 rfl ?_
    exact zr_iret (pc := 21) hV dX11_sheet_21 rfl rfl ⟨_, rfl, ⟨by decide, by decide⟩, hσ, hFσ, (by omega), (show ((∀ j, σ 277 j = if 0 ≤ sheet ∧ sheet ≤ 3 ∧ 0 ≤ lane ∧ lane ≤ 2 ∧ n ≤ 30 ∧ 0 ≤ n ∧ j = sheet then lane else σ 277 j) ∧ (∀ j, σ 278 j = if 0 ≤ sheet ∧ sheet ≤ 3 ∧ 0 ≤ lane ∧ lane ≤ 2 ∧ n ≤ 30 ∧ 0 ≤ n ∧ j = sheet then n else σ 278 j)) ∧ (∀ s i, 0 ≤ s → s ≤ 3 → 0 ≤ i → i < 30 → σ (280 + s) i = if 0 ≤ sheet ∧ sheet ≤ 3 ∧ 0 ≤ lane ∧ lane ≤ 2 ∧ n ≤ 30 ∧ 0 ≤ n ∧ s = sheet then 0 else σ (280 + s) i) from ⟨⟨fun j => by rw [if_neg (by omega)], fun j => by rw [if_neg (by omega)]⟩, (fun s i s0 s3 i0 i1 => by rw [if_neg (by omega)])⟩), Uσ⟩
  · show V 7 [some (ZR 0), some (ZI sheet), some (ZI lane), some (ZI n)] [] 284 σ
    refine zr_iload_n (pc := 7) hV dX11_sheet_7 rfl rfl ?_
    refine zr_callSp (pc := 8) hV [ZI lane] (st := []) (c_X5_isLane (σ := σ) lane (by omega)) dX11_sheet_8 mX11_276 (by decide) (Nat.le_of_ble_eq_true rfl) (Nat.le_refl _) (fun r8 hr8 pr8 => ?_)
    refine zr_if_eq (pc := 11) hV 20 dX11_sheet_11 (by decide) (by omega) (fun c2 => ?_) (fun c2 => ?_)
    · show V 20 [some (ZR 0), some (ZI sheet), some (ZI lane), some (ZI n)] [] 284 σ
      refine zr_iconst (pc := 20) hV (-1) dX11_sheet_20 rfl ?_
      exact zr_iret (pc := 21) hV dX11_sheet_21 rfl rfl ⟨_, rfl, ⟨by decide, by decide⟩, hσ, hFσ, (by omega), (show ((∀ j, σ 277 j = if 0 ≤ sheet ∧ sheet ≤ 3 ∧ 0 ≤ lane ∧ lane ≤ 2 ∧ n ≤ 30 ∧ 0 ≤ n ∧ j = sheet then lane else σ 277 j) ∧ (∀ j, σ 278 j = if 0 ≤ sheet ∧ sheet ≤ 3 ∧ 0 ≤ lane ∧ lane ≤ 2 ∧ n ≤ 30 ∧ 0 ≤ n ∧ j = sheet then n else σ 278 j)) ∧ (∀ s i, 0 ≤ s → s ≤ 3 → 0 ≤ i → i < 30 → σ (280 + s) i = if 0 ≤ sheet ∧ sheet ≤ 3 ∧ 0 ≤ lane ∧ lane ≤ 2 ∧ n ≤ 30 ∧ 0 ≤ n ∧ s = sheet then 0 else σ (280 + s) i) from ⟨⟨fun j => by rw [if_neg (by omega)], fun j => by rw [if_neg (by omega)]⟩, (fun s i s0 s3 i0 i1 => by rw [if_neg (by omega)])⟩), Uσ⟩
    · show V 14 [some (ZR 0), some (ZI sheet), some (ZI lane), some (ZI n)] [] 284 σ
      refine zr_iload_n (pc := 14) hV dX11_sheet_14 rfl rfl ?_
      refine zr_bipush (pc := 15) hV 30 dX11_sheet_15 (by decide) ?_
      refine zr_icmp_le (pc := 17) hV 22 dX11_sheet_17 (by decide) (by omega) ⟨by decide, by decide⟩ (fun c3 => ?_) (fun c3 => ?_)
      · show V 22 [some (ZR 0), some (ZI sheet), some (ZI lane), some (ZI n)] [] 284 σ
        refine zr_iload_n (pc := 22) hV dX11_sheet_22 rfl rfl ?_
        refine zr_if_ge (pc := 23) hV 31 dX11_sheet_23 (by decide) (by omega) (fun c4 => ?_) (fun c4 => ?_)
        · show V 31 [some (ZR 0), some (ZI sheet), some (ZI lane), some (ZI n)] [] 284 σ
          refine zr_aload_n (pc := 31) hV dX11_sheet_31 rfl rfl ?_
          refine zr_getR (pc := 32) hV 7 276 dX11_sheet_32 fX11_64 rfl rfl (zc_k0 zc_s0) (zc_pos zc_s0 rfl) (zc_g0_7 hσ zc_s0) (by decide) ?_
          refine zr_iload_n (pc := 35) hV dX11_sheet_35 rfl rfl ?_
          refine zr_iload_n (pc := 36) hV dX11_sheet_36 rfl rfl ?_
          refine zr_iload_n (pc := 37) hV dX11_sheet_37 rfl rfl ?_
          refine zr_callVi (pc := 38) hV [ZI sheet, ZI lane, ZI n] (st := []) (c_X5_lay_3 (σ := σ) hσ sheet lane n (by omega) (by omega) (by omega)) dX11_sheet_38 mX11_300 (zc_k276 zc_s276) (zc_pos zc_s276 rfl) (by decide) (Nat.le_of_ble_eq_true rfl) (Nat.le_refl _) (fun r38 σ38 hr38 pσ38 => ?_)
          obtain ⟨hσ38, hfσ38, pσ38, wσ38⟩ := pσ38
          have hFσ38 := zc_Fc hfσ38 rfl hFσ
          have Uσ38 : zc_U σ38 := zc_U_fr hfσ38 rfl hσ Uσ
          show V 41 [some (ZR 0), some (ZI sheet), some (ZI lane), some (ZI n)] [ZI r38] 284 σ38
          exact zr_iret (pc := 41) hV dX11_sheet_41 rfl rfl ⟨_, rfl, (by omega), hσ38, hFσ38, (by omega), (show ((∀ j, σ38 277 j = if 0 ≤ sheet ∧ sheet ≤ 3 ∧ 0 ≤ lane ∧ lane ≤ 2 ∧ n ≤ 30 ∧ 0 ≤ n ∧ j = sheet then lane else σ 277 j) ∧ (∀ j, σ38 278 j = if 0 ≤ sheet ∧ sheet ≤ 3 ∧ 0 ≤ lane ∧ lane ≤ 2 ∧ n ≤ 30 ∧ 0 ≤ n ∧ j = sheet then n else σ 278 j)) ∧ (∀ s i, 0 ≤ s → s ≤ 3 → 0 ≤ i → i < 30 → σ38 (280 + s) i = if 0 ≤ sheet ∧ sheet ≤ 3 ∧ 0 ≤ lane ∧ lane ≤ 2 ∧ n ≤ 30 ∧ 0 ≤ n ∧ s = sheet then 0 else σ (280 + s) i) from ⟨⟨fun j => if h : j = sheet then (by rw [wσ38.1.1 j, if_pos h, if_pos (by omega)]) else (by rw [wσ38.1.1 j, if_neg h, if_neg (by omega)]), fun j => if h : j = sheet then (by rw [wσ38.1.2 j, if_pos h, if_pos (by omega)]) else (by rw [wσ38.1.2 j, if_neg h, if_neg (by omega)])⟩, (fun s i s0 s3 i0 i1 => if h : s = sheet then (by rw [wσ38.2 s i s0 s3 i0 i1, if_pos h, if_pos (by omega)]) else (by rw [wσ38.2 s i s0 s3 i0 i1, if_neg h, if_neg (by omega)]))⟩), Uσ38⟩
        · show V 26 [some (ZR 0), some (ZI sheet), some (ZI lane), some (ZI n)] [] 284 σ
          refine zr_bipush (pc := 26) hV (-14) dX11_sheet_26 (by decide) ?_
          refine zr_goto (pc := 28) hV 41 dX11_sheet_28 (by decide) ?_
          show V 41 [some (ZR 0), some (ZI sheet), some (ZI lane), some (ZI n)] [ZI (-14)] 284 σ
          exact zr_iret (pc := 41) hV dX11_sheet_41 rfl rfl ⟨_, rfl, ⟨by decide, by decide⟩, hσ, hFσ, (by omega), (show ((∀ j, σ 277 j = if 0 ≤ sheet ∧ sheet ≤ 3 ∧ 0 ≤ lane ∧ lane ≤ 2 ∧ n ≤ 30 ∧ 0 ≤ n ∧ j = sheet then lane else σ 277 j) ∧ (∀ j, σ 278 j = if 0 ≤ sheet ∧ sheet ≤ 3 ∧ 0 ≤ lane ∧ lane ≤ 2 ∧ n ≤ 30 ∧ 0 ≤ n ∧ j = sheet then n else σ 278 j)) ∧ (∀ s i, 0 ≤ s → s ≤ 3 → 0 ≤ i → i < 30 → σ (280 + s) i = if 0 ≤ sheet ∧ sheet ≤ 3 ∧ 0 ≤ lane ∧ lane ≤ 2 ∧ n ≤ 30 ∧ 0 ≤ n ∧ s = sheet then 0 else σ (280 + s) i) from ⟨⟨fun j => by rw [if_neg (by omega)], fun j => by rw [if_neg (by omega)]⟩, (fun s i s0 s3 i0 i1 => by rw [if_neg (by omega)])⟩), Uσ⟩
      · show V 20 [some (ZR 0), some (ZI sheet), some (ZI lane), some (ZI n)] [] 284 σ
        refine zr_iconst (pc := 20) hV (-1) dX11_sheet_20 rfl ?_
        exact zr_iret (pc := 21) hV dX11_sheet_21 rfl rfl ⟨_, rfl, ⟨by decide, by decide⟩, hσ, hFσ, (by omega), (show ((∀ j, σ 277 j = if 0 ≤ sheet ∧ sheet ≤ 3 ∧ 0 ≤ lane ∧ lane ≤ 2 ∧ n ≤ 30 ∧ 0 ≤ n ∧ j = sheet then lane else σ 277 j) ∧ (∀ j, σ 278 j = if 0 ≤ sheet ∧ sheet ≤ 3 ∧ 0 ≤ lane ∧ lane ≤ 2 ∧ n ≤ 30 ∧ 0 ≤ n ∧ j = sheet then n else σ 278 j)) ∧ (∀ s i, 0 ≤ s → s ≤ 3 → 0 ≤ i → i < 30 → σ (280 + s) i = if 0 ≤ sheet ∧ sheet ≤ 3 ∧ 0 ≤ lane ∧ lane ≤ 2 ∧ n ≤ 30 ∧ 0 ≤ n ∧ s = sheet then 0 else σ (280 + s) i) from ⟨⟨fun j => by rw [if_neg (by omega)], fun j => by rw [if_neg (by omega)]⟩, (fun s i s0 s3 i0 i1 => by rw [if_neg (by omega)])⟩), Uσ⟩
set_option maxHeartbeats 800000 in
theorem c_X5_write_3 {σ : zq_S} (hσ : zc_T σ) (sheet : Int) (i : Int) (v : Int) (q0 : 0 ≤ sheet ∧ sheet ≤ 3) (q1 : 0 ≤ i ∧ i ≤ 29) (q2 : zq_in v) : zq_C zc_w yX5_write cX5_write 4 (some .int) 0 0 284 284 [ZR 276, ZI sheet, ZI i, ZI v] σ (zq_pi (fun r τ => zc_T τ ∧ zc_Fr [(280, -1)] σ τ ∧ (r = 1) ∧ zq_hid (∀ s j, 0 ≤ s → s ≤ 3 → τ (280 + s) j = if s = sheet ∧ j = i then zu_cut (σ 277 sheet) v else σ (280 + s) j))) := by
  refine zq_C_of (by decide) (Nat.le_refl _) (Nat.le_of_ble_eq_true rfl) [some (ZR 276), some (ZI sheet), some (ZI i), some (ZI v)] rfl (fun V hV => ?_)
  have hFσ := zc_Fr_rf [(280, -1)] σ
  show V 0 [some (ZR 276), some (ZI sheet), some (ZI i), some (ZI v)] [] 284 σ
  refine zr_aload_n (pc := 0) hV dX5_write_0 rfl rfl ?_
  refine zr_getR (pc := 1) hV 0 277 dX5_write_1 fX5_11 rfl rfl (zc_k276 zc_s276) (zc_pos zc_s276 rfl) (zc_g276_0 hσ zc_s276) (by decide) ?_
  refine zr_iload_n (pc := 4) hV dX5_write_4 rfl rfl ?_
  refine zr_iald (pc := 5) hV dX5_write_5 (zc_k277 zc_s277) (zc_pos zc_s277 rfl) rfl (by omega) ?_
  have t1 := zc_ga277 hσ zc_s277 sheet
  by_cases c2 : σ 277 sheet = 0
  · refine zr_eqI (V := V) 0 c2 ?_
    refine zr_lookup (pc := 6) hV 32 dX5_write_6 ⟨by decide, by decide⟩ (by decide) rfl (by decide) ?_
    show V 32 [some (ZR 276), some (ZI sheet), some (ZI i), some (ZI v)] [] 284 σ
    refine zr_aload_n (pc := 32) hV dX5_write_32 rfl rfl ?_
    refine zr_getR (pc := 33) hV 2 279 dX5_write_33 fX5_20 rfl rfl (zc_k276 zc_s276) (zc_pos zc_s276 rfl) (zc_g276_2 hσ zc_s276) (by decide) ?_
    refine zr_iload_n (pc := 36) hV dX5_write_36 rfl rfl ?_
    have ga37 : σ 279 sheet = 280 + sheet := zc_ga279 hσ zc_s279 sheet (by omega) (by omega)
    refine zr_aald (pc := 37) hV dX5_write_37 (zc_k279 zc_s279) (Or.inr rfl) (zc_pos zc_s279 rfl) rfl (by omega) (by omega) ?_
    obtain ⟨o37, eo37⟩ : ∃ o, σ 279 sheet = o := ⟨_, rfl⟩
    rw [eo37] at ga37 ⊢
    have ko37 : zc_kd o37 = 280 := ga37 ▸ zc_e280 (by omega) (by omega)
    have po37 := zc_pos ko37 rfl
    show V 38 [some (ZR 276), some (ZI sheet), some (ZI i), some (ZI v)] [ZR o37] 284 σ
    refine zr_iload_n (pc := 38) hV dX5_write_38 rfl rfl ?_
    refine zr_iload_n (pc := 39) hV dX5_write_39 rfl rfl ?_
    refine zr_i2b (pc := 40) hV dX5_write_40 ?_
    have t3 := zq_byte_in v
    refine zr_iast (pc := 41) hV dX5_write_41 (zc_k280 ko37) (zc_pos ko37 rfl) rfl (by omega) (fun σ41 eσ41 => ?_)
    have hσ41 : zc_T σ41 := zc_ua280 eσ41 hσ ko37 (by omega)
    have hFσ41 := zc_Fa eσ41 ko37 rfl hFσ
    refine zr_goto (pc := 42) hV 67 dX5_write_42 (by decide) ?_
    show V 67 [some (ZR 276), some (ZI sheet), some (ZI i), some (ZI v)] [] 284 σ41
    refine zr_iconst (pc := 67) hV 1 dX5_write_67 rfl ?_
    exact zr_iret (pc := 68) hV dX5_write_68 rfl rfl ⟨_, rfl, ⟨by decide, by decide⟩, hσ41, hFσ41, (by omega), (show ∀ s j, 0 ≤ s → s ≤ 3 → σ41 (280 + s) j = if s = sheet ∧ j = i then zu_cut (σ 277 sheet) v else σ (280 + s) j from (fun s j s0 s3 => if h : s = sheet ∧ j = i then (by rw [if_pos h, h.1, h.2, ← ga37, eσ41, zq_up_same]; unfold zu_cut; rw [if_pos (by omega)]) else (by rw [if_neg h, eσ41, zq_up_ne (by omega)])))⟩
  by_cases c4 : σ 277 sheet = 1
  · refine zr_eqI (V := V) 1 c4 ?_
    refine zr_lookup (pc := 6) hV 45 dX5_write_6 ⟨by decide, by decide⟩ (by decide) rfl (by decide) ?_
    show V 45 [some (ZR 276), some (ZI sheet), some (ZI i), some (ZI v)] [] 284 σ
    refine zr_aload_n (pc := 45) hV dX5_write_45 rfl rfl ?_
    refine zr_getR (pc := 46) hV 2 279 dX5_write_46 fX5_20 rfl rfl (zc_k276 zc_s276) (zc_pos zc_s276 rfl) (zc_g276_2 hσ zc_s276) (by decide) ?_
    refine zr_iload_n (pc := 49) hV dX5_write_49 rfl rfl ?_
    have ga50 : σ 279 sheet = 280 + sheet := zc_ga279 hσ zc_s279 sheet (by omega) (by omega)
    refine zr_aald (pc := 50) hV dX5_write_50 (zc_k279 zc_s279) (Or.inr rfl) (zc_pos zc_s279 rfl) rfl (by omega) (by omega) ?_
    obtain ⟨o50, eo50⟩ : ∃ o, σ 279 sheet = o := ⟨_, rfl⟩
    rw [eo50] at ga50 ⊢
    have ko50 : zc_kd o50 = 280 := ga50 ▸ zc_e280 (by omega) (by omega)
    have po50 := zc_pos ko50 rfl
    show V 51 [some (ZR 276), some (ZI sheet), some (ZI i), some (ZI v)] [ZR o50] 284 σ
    refine zr_iload_n (pc := 51) hV dX5_write_51 rfl rfl ?_
    refine zr_iload_n (pc := 52) hV dX5_write_52 rfl rfl ?_
    refine zr_i2s (pc := 53) hV dX5_write_53 ?_
    have t5 := zq_short_in v
    refine zr_iast (pc := 54) hV dX5_write_54 (zc_k280 ko50) (zc_pos ko50 rfl) rfl (by omega) (fun σ54 eσ54 => ?_)
    have hσ54 : zc_T σ54 := zc_ua280 eσ54 hσ ko50 (by omega)
    have hFσ54 := zc_Fa eσ54 ko50 rfl hFσ
    refine zr_goto (pc := 55) hV 67 dX5_write_55 (by decide) ?_
    show V 67 [some (ZR 276), some (ZI sheet), some (ZI i), some (ZI v)] [] 284 σ54
    refine zr_iconst (pc := 67) hV 1 dX5_write_67 rfl ?_
    exact zr_iret (pc := 68) hV dX5_write_68 rfl rfl ⟨_, rfl, ⟨by decide, by decide⟩, hσ54, hFσ54, (by omega), (show ∀ s j, 0 ≤ s → s ≤ 3 → σ54 (280 + s) j = if s = sheet ∧ j = i then zu_cut (σ 277 sheet) v else σ (280 + s) j from (fun s j s0 s3 => if h : s = sheet ∧ j = i then (by rw [if_pos h, h.1, h.2, ← ga50, eσ54, zq_up_same]; unfold zu_cut; rw [if_neg (by omega), if_pos (by omega)]) else (by rw [if_neg h, eσ54, zq_up_ne (by omega)])))⟩
  refine zr_lookup (pc := 6) (off := 52) hV 58 dX5_write_6 (by omega) (by decide) (by simp only [Op.lookupswitch.offset]; repeat (split <;> try omega)) (by decide) ?_
  show V 58 [some (ZR 276), some (ZI sheet), some (ZI i), some (ZI v)] [] 284 σ
  refine zr_aload_n (pc := 58) hV dX5_write_58 rfl rfl ?_
  refine zr_getR (pc := 59) hV 2 279 dX5_write_59 fX5_20 rfl rfl (zc_k276 zc_s276) (zc_pos zc_s276 rfl) (zc_g276_2 hσ zc_s276) (by decide) ?_
  refine zr_iload_n (pc := 62) hV dX5_write_62 rfl rfl ?_
  have ga63 : σ 279 sheet = 280 + sheet := zc_ga279 hσ zc_s279 sheet (by omega) (by omega)
  refine zr_aald (pc := 63) hV dX5_write_63 (zc_k279 zc_s279) (Or.inr rfl) (zc_pos zc_s279 rfl) rfl (by omega) (by omega) ?_
  obtain ⟨o63, eo63⟩ : ∃ o, σ 279 sheet = o := ⟨_, rfl⟩
  rw [eo63] at ga63 ⊢
  have ko63 : zc_kd o63 = 280 := ga63 ▸ zc_e280 (by omega) (by omega)
  have po63 := zc_pos ko63 rfl
  show V 64 [some (ZR 276), some (ZI sheet), some (ZI i), some (ZI v)] [ZR o63] 284 σ
  refine zr_iload_n (pc := 64) hV dX5_write_64 rfl rfl ?_
  refine zr_iload_n (pc := 65) hV dX5_write_65 rfl rfl ?_
  refine zr_iast (pc := 66) hV dX5_write_66 (zc_k280 ko63) (zc_pos ko63 rfl) rfl (by omega) (fun σ66 eσ66 => ?_)
  have hσ66 : zc_T σ66 := zc_ua280 eσ66 hσ ko63 (by omega)
  have hFσ66 := zc_Fa eσ66 ko63 rfl hFσ
  show V 67 [some (ZR 276), some (ZI sheet), some (ZI i), some (ZI v)] [] 284 σ66
  refine zr_iconst (pc := 67) hV 1 dX5_write_67 rfl ?_
  exact zr_iret (pc := 68) hV dX5_write_68 rfl rfl ⟨_, rfl, ⟨by decide, by decide⟩, hσ66, hFσ66, (by omega), (show ∀ s j, 0 ≤ s → s ≤ 3 → σ66 (280 + s) j = if s = sheet ∧ j = i then zu_cut (σ 277 sheet) v else σ (280 + s) j from (fun s j s0 s3 => if h : s = sheet ∧ j = i then (by rw [if_pos h, h.1, h.2, ← ga63, eσ66, zq_up_same]; unfold zu_cut; rw [if_neg (by omega), if_neg (by omega)]) else (by rw [if_neg h, eσ66, zq_up_ne (by omega)])))⟩
set_option maxHeartbeats 800000 in
theorem c_X11_item_3 {σ : zq_S} (hσ : zc_T σ) (sheet : Int) (lane : Int) (i : Int) (v : Int) (q0 : zq_in sheet) (q1 : zq_in lane) (q2 : zq_in i) (q3 : zq_in v) (Uσ : zc_U σ) : zq_C zc_w yX11_item cX11_item 6 (some .int) 1 24 284 284 [ZR 0, ZI sheet, ZI lane, ZI i, ZI v] σ (zq_pi (fun r τ => zc_T τ ∧ zc_Fr [(280, -1)] σ τ ∧ ((¬ (0 ≤ sheet ∧ sheet ≤ 3 ∧ 0 ≤ lane ∧ lane ≤ 2) → r = -1) ∧ (0 ≤ sheet ∧ sheet ≤ 3 ∧ 0 ≤ lane ∧ lane ≤ 2 → (σ 277 sheet ≠ lane → (σ 277 sheet < 0 → r = -11) ∧ (0 ≤ σ 277 sheet → r = -12)) ∧ (σ 277 sheet = lane → (0 ≤ i ∧ i ≤ σ 278 sheet - 1 → r = 1) ∧ (¬ (0 ≤ i ∧ i ≤ σ 278 sheet - 1) → r = -13)))) ∧ zq_hid (∀ s j, 0 ≤ s → s ≤ 3 → τ (280 + s) j = if (0 ≤ sheet ∧ sheet ≤ 3 ∧ 0 ≤ lane ∧ lane ≤ 2 ∧ σ 277 sheet = lane ∧ 0 ≤ i ∧ i ≤ σ 278 sheet - 1) ∧ s = sheet ∧ j = i then zu_cut lane v else σ (280 + s) j) ∧ zc_U τ)) := by
  refine zq_C_of (by decide) (Nat.le_refl _) (Nat.le_of_ble_eq_true rfl) [some (ZR 0), some (ZI sheet), some (ZI lane), some (ZI i), some (ZI v), none] rfl (fun V hV => ?_)
  have hFσ := zc_Fr_rf [(280, -1)] σ
  show V 0 [some (ZR 0), some (ZI sheet), some (ZI lane), some (ZI i), some (ZI v), none] [] 284 σ
  refine zr_iload_n (pc := 0) hV dX11_item_0 rfl rfl ?_
  refine zr_callSp (pc := 1) hV [ZI sheet] (st := []) (c_X5_isSheet (σ := σ) sheet (by omega)) dX11_item_1 mX11_273 (by decide) (Nat.le_of_ble_eq_true rfl) (Nat.le_refl _) (fun r1 hr1 pr1 => ?_)
  refine zr_if_eq (pc := 4) hV 14 dX11_item_4 (by decide) (by omega) (fun c1 => ?_) (fun c1 => ?_)
  · show V 14 [some (ZR 0), some (ZI sheet), some (ZI lane), some (ZI i), some (ZI v), none] [] 284 σ
    refine zr_iconst (pc := 14) hV (-1) dX11_item_14 rfl ?_
    exact zr_iret (pc := 15) hV dX11_item_15 rfl rfl ⟨_, rfl, ⟨by decide, by decide⟩, hσ, hFσ, (by omega), (show ∀ s j, 0 ≤ s → s ≤ 3 → σ (280 + s) j = if (0 ≤ sheet ∧ sheet ≤ 3 ∧ 0 ≤ lane ∧ lane ≤ 2 ∧ σ 277 sheet = lane ∧ 0 ≤ i ∧ i ≤ σ 278 sheet - 1) ∧ s = sheet ∧ j = i then zu_cut lane v else σ (280 + s) j from (fun s j s0 s3 => by rw [if_neg (by omega)])), Uσ⟩
  · show V 7 [some (ZR 0), some (ZI sheet), some (ZI lane), some (ZI i), some (ZI v), none] [] 284 σ
    refine zr_iload_n (pc := 7) hV dX11_item_7 rfl rfl ?_
    refine zr_callSp (pc := 8) hV [ZI lane] (st := []) (c_X5_isLane (σ := σ) lane (by omega)) dX11_item_8 mX11_276 (by decide) (Nat.le_of_ble_eq_true rfl) (Nat.le_refl _) (fun r8 hr8 pr8 => ?_)
    refine zr_if_ne (pc := 11) hV 16 dX11_item_11 (by decide) (by omega) (fun c2 => ?_) (fun c2 => ?_)
    · show V 16 [some (ZR 0), some (ZI sheet), some (ZI lane), some (ZI i), some (ZI v), none] [] 284 σ
      refine zr_aload_n (pc := 16) hV dX11_item_16 rfl rfl ?_
      refine zr_getR (pc := 17) hV 7 276 dX11_item_17 fX11_64 rfl rfl (zc_k0 zc_s0) (zc_pos zc_s0 rfl) (zc_g0_7 hσ zc_s0) (by decide) ?_
      refine zr_iload_n (pc := 20) hV dX11_item_20 rfl rfl ?_
      refine zr_iload_n (pc := 21) hV dX11_item_21 rfl rfl ?_
      refine zr_iload_n (pc := 22) hV dX11_item_22 rfl rfl ?_
      refine zr_iconst (pc := 23) hV 1 dX11_item_23 rfl ?_
      refine zr_callVp (pc := 24) hV [ZI sheet, ZI lane, ZI i, ZI 1] (st := []) (c_X5_refusal_2 (σ := σ) hσ sheet lane i 1 (by omega) (by omega) (by omega) (by omega)) dX11_item_24 mX11_279 (zc_k276 zc_s276) (zc_pos zc_s276 rfl) (by decide) (Nat.le_of_ble_eq_true rfl) (Nat.le_refl _) (fun r24 hr24 pr24 => ?_)
      refine zr_istore (pc := 27) hV [some (ZR 0), some (ZI sheet), some (ZI lane), some (ZI i), some (ZI v), some (ZI r24)] dX11_item_27 (by decide) rfl rfl ?_
      refine zr_iload (pc := 29) hV dX11_item_29 rfl ?_
      refine zr_if_ge (pc := 31) hV 39 dX11_item_31 (by decide) (by omega) (fun c3 => ?_) (fun c3 => ?_)
      · show V 39 [some (ZR 0), some (ZI sheet), some (ZI lane), some (ZI i), some (ZI v), some (ZI r24)] [] 284 σ
        refine zr_aload_n (pc := 39) hV dX11_item_39 rfl rfl ?_
        refine zr_getR (pc := 40) hV 7 276 dX11_item_40 fX11_64 rfl rfl (zc_k0 zc_s0) (zc_pos zc_s0 rfl) (zc_g0_7 hσ zc_s0) (by decide) ?_
        refine zr_iload_n (pc := 43) hV dX11_item_43 rfl rfl ?_
        refine zr_iload_n (pc := 44) hV dX11_item_44 rfl rfl ?_
        refine zr_iload (pc := 45) hV dX11_item_45 rfl ?_
        refine zr_callVi (pc := 47) hV [ZI sheet, ZI i, ZI v] (st := []) (c_X5_write_3 (σ := σ) hσ sheet i v (by omega) (by omega) (by omega)) dX11_item_47 mX11_307 (zc_k276 zc_s276) (zc_pos zc_s276 rfl) (by decide) (Nat.le_of_ble_eq_true rfl) (Nat.le_refl _) (fun r47 σ47 hr47 pσ47 => ?_)
        obtain ⟨hσ47, hfσ47, pσ47, wσ47⟩ := pσ47
        have hFσ47 := zc_Fc hfσ47 rfl hFσ
        have Uσ47 : zc_U σ47 := zc_U_fr hfσ47 rfl hσ Uσ
        show V 50 [some (ZR 0), some (ZI sheet), some (ZI lane), some (ZI i), some (ZI v), some (ZI r24)] [ZI r47] 284 σ47
        exact zr_iret (pc := 50) hV dX11_item_50 rfl rfl ⟨_, rfl, (by omega), hσ47, hFσ47, (by omega), (show ∀ s j, 0 ≤ s → s ≤ 3 → σ47 (280 + s) j = if (0 ≤ sheet ∧ sheet ≤ 3 ∧ 0 ≤ lane ∧ lane ≤ 2 ∧ σ 277 sheet = lane ∧ 0 ≤ i ∧ i ≤ σ 278 sheet - 1) ∧ s = sheet ∧ j = i then zu_cut lane v else σ (280 + s) j from (fun s j s0 s3 => if h : s = sheet ∧ j = i then (by rw [wσ47 s j s0 s3, if_pos h, if_pos (by omega), show σ 277 sheet = lane by omega]) else (by rw [wσ47 s j s0 s3, if_neg h, if_neg (by omega)]))), Uσ47⟩
      · show V 34 [some (ZR 0), some (ZI sheet), some (ZI lane), some (ZI i), some (ZI v), some (ZI r24)] [] 284 σ
        refine zr_iload (pc := 34) hV dX11_item_34 rfl ?_
        refine zr_goto (pc := 36) hV 50 dX11_item_36 (by decide) ?_
        show V 50 [some (ZR 0), some (ZI sheet), some (ZI lane), some (ZI i), some (ZI v), some (ZI r24)] [ZI r24] 284 σ
        exact zr_iret (pc := 50) hV dX11_item_50 rfl rfl ⟨_, rfl, (by omega), hσ, hFσ, (by omega), (show ∀ s j, 0 ≤ s → s ≤ 3 → σ (280 + s) j = if (0 ≤ sheet ∧ sheet ≤ 3 ∧ 0 ≤ lane ∧ lane ≤ 2 ∧ σ 277 sheet = lane ∧ 0 ≤ i ∧ i ≤ σ 278 sheet - 1) ∧ s = sheet ∧ j = i then zu_cut lane v else σ (280 + s) j from (fun s j s0 s3 => by rw [if_neg (by omega)])), Uσ⟩
    · show V 14 [some (ZR 0), some (ZI sheet), some (ZI lane), some (ZI i), some (ZI v), none] [] 284 σ
      refine zr_iconst (pc := 14) hV (-1) dX11_item_14 rfl ?_
      exact zr_iret (pc := 15) hV dX11_item_15 rfl rfl ⟨_, rfl, ⟨by decide, by decide⟩, hσ, hFσ, (by omega), (show ∀ s j, 0 ≤ s → s ≤ 3 → σ (280 + s) j = if (0 ≤ sheet ∧ sheet ≤ 3 ∧ 0 ≤ lane ∧ lane ≤ 2 ∧ σ 277 sheet = lane ∧ 0 ≤ i ∧ i ≤ σ 278 sheet - 1) ∧ s = sheet ∧ j = i then zu_cut lane v else σ (280 + s) j from (fun s j s0 s3 => by rw [if_neg (by omega)])), Uσ⟩

