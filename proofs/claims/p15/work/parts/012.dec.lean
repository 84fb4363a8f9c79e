/-! ===== decode rows by bytes: a lemma an opcode ===== -/
noncomputable def zd_dr (p : Nat) : List UInt8 → List UInt8 := Nat.rec (motive := fun _ => List UInt8 → List UInt8) (fun l => l) (fun _ ih l => List.rec (motive := fun _ => List UInt8) [] (fun _ t _ => ih t) l) p
noncomputable def zd_pre (e : List Nat) : List UInt8 → Bool := List.rec (motive := fun _ => List UInt8 → Bool) (fun _ => true) (fun n _ ih l => List.rec (motive := fun _ => Bool) false (fun x t _ => Bool.rec (motive := fun _ => Bool) false (ih t) (Nat.beq x.toNat n)) l) e
noncomputable def zd_b (l : List UInt8) (p : Nat) (e : List Nat) : Bool := zd_pre e (zd_dr p l)
theorem zd_dr_eq : ∀ (p : Nat) (l : List UInt8), zd_dr p l = l.drop p := by
  intro p
  induction p with
  | zero => intro l; rfl
  | succ p ih =>
    intro l
    cases l with
    | nil => rfl
    | cons x t => exact ih t
theorem zd_pre_c {n : Nat} {e : List Nat} {x : UInt8} {t : List UInt8} (h : zd_pre (n :: e) (x :: t) = true) : x.toNat = n ∧ zd_pre e t = true := by
  have h' : (Bool.rec (motive := fun _ => Bool) false (zd_pre e t) (Nat.beq x.toNat n) : Bool) = true := h
  cases hb : Nat.beq x.toNat n with
  | false => rw [hb] at h'; exact absurd h' Bool.false_ne_true
  | true => rw [hb] at h'; exact ⟨Nat.eq_of_beq_eq_true hb, h'⟩
theorem zd_bind {α β : Type} {m : Decoder α} {k : α → Decoder β} {c : ByteArray} {p q : Nat} {a : α} {r : Except DecodeError (β × Nat)} (e : m c p = .ok (a, q)) (h : k a c q = r) : (m >>= k) c p = r := by
  show Except.bind (m c p) (fun x => k x.1 c x.2) = r
  rw [e]
  exact h
theorem zd_fin {c : ByteArray} {p q n : Nat} {i : Instr} (h : Decoder.instr p c p = .ok (i, q)) (hq : q - p = n) : decode c p = .ok (i, n) := by
  show Except.bind (Decoder.instr p c p) (fun x => .ok (x.1, x.2 - p)) = _
  rw [h, ← hq]
  rfl
theorem zd_u1 {c : ByteArray} {p n : Nat} {e : List Nat} (h : zd_b c.data.toList p (n :: e) = true) : (Reader.u1 : Decoder Nat) c p = .ok (n, p + 1) ∧ zd_b c.data.toList (p + 1) e = true := by
  unfold zd_b at h ⊢
  rw [zd_dr_eq] at h ⊢
  by_cases hp : p < c.data.toList.length
  · rw [List.drop_eq_getElem_cons hp] at h
    obtain ⟨h1, h2⟩ := zd_pre_c h
    refine ⟨?_, h2⟩
    have hs : p < c.size := hp
    show (dite (p < c.size) (fun h => (do set (p + 1); pure c[p].toNat : Decoder Nat)) (fun _ => throw (HasTruncated.truncated p))) c p = _
    rw [dif_pos hs, ← h1]
    rfl
  · rw [List.drop_eq_nil_of_le (by omega)] at h
    exact absurd h Bool.false_ne_true
theorem zd_u2 {c : ByteArray} {p v : Nat} {e : List Nat} (h : zd_b c.data.toList p (v / 256 :: v % 256 :: e) = true) : (Reader.u2 : Decoder Nat) c p = .ok (v, p + 1 + 1) ∧ zd_b c.data.toList (p + 1 + 1) e = true := by
  have e1 := zd_u1 h
  have e2 := zd_u1 e1.2
  refine ⟨?_, e2.2⟩
  have hv : v / 256 * 256 + v % 256 = v := by omega
  unfold Reader.u2
  refine zd_bind e1.1 (zd_bind e2.1 ?_)
  show Except.ok (v / 256 * 256 + v % 256, p + 1 + 1) = _
  rw [hv]
theorem zd_map {α β : Type} {m : Decoder α} {f : α → β} {c : ByteArray} {p q : Nat} {a : α} (e : m c p = .ok (a, q)) : (f <$> m : Decoder β) c p = .ok (f a, q) := by
  show Except.bind (m c p) (fun x => .ok (f x.1, x.2)) = _
  rw [e]
  rfl
theorem zd_s1 {c : ByteArray} {p v : Nat} {e : List Nat} (h : zd_b c.data.toList p (v :: e) = true) : (Reader.s1 : Decoder Int) c p = .ok (Reader.signed 8 v, p + 1) := by
  unfold Reader.s1
  exact zd_map (zd_u1 h).1
theorem zd_s2 {c : ByteArray} {p v : Nat} {e : List Nat} (h : zd_b c.data.toList p (v / 256 :: v % 256 :: e) = true) : (Reader.s2 : Decoder Int) c p = .ok (Reader.signed 16 v, p + 1 + 1) := by
  unfold Reader.s2
  exact zd_map (zd_u2 h).1
theorem zd_1 {c : ByteArray} {p : Nat} (h : zd_b c.data.toList p [1] = true) : decode c p = .ok (.aconst_null, 1) := by
  exact zd_fin (by unfold Decoder.instr; exact zd_bind (zd_u1 h).1 rfl) (by omega)
theorem zd_10 {c : ByteArray} {p : Nat} (h : zd_b c.data.toList p [10] = true) : decode c p = .ok (.lconst 1, 1) := by
  exact zd_fin (by unfold Decoder.instr; exact zd_bind (zd_u1 h).1 rfl) (by omega)
theorem zd_100 {c : ByteArray} {p : Nat} (h : zd_b c.data.toList p [100] = true) : decode c p = .ok (.isub, 1) := by
  exact zd_fin (by unfold Decoder.instr; exact zd_bind (zd_u1 h).1 rfl) (by omega)
theorem zd_104 {c : ByteArray} {p : Nat} (h : zd_b c.data.toList p [104] = true) : decode c p = .ok (.imul, 1) := by
  exact zd_fin (by unfold Decoder.instr; exact zd_bind (zd_u1 h).1 rfl) (by omega)
theorem zd_108 {c : ByteArray} {p : Nat} (h : zd_b c.data.toList p [108] = true) : decode c p = .ok (.idiv, 1) := by
  exact zd_fin (by unfold Decoder.instr; exact zd_bind (zd_u1 h).1 rfl) (by omega)
theorem zd_112 {c : ByteArray} {p : Nat} (h : zd_b c.data.toList p [112] = true) : decode c p = .ok (.irem, 1) := by
  exact zd_fin (by unfold Decoder.instr; exact zd_bind (zd_u1 h).1 rfl) (by omega)
theorem zd_120 {c : ByteArray} {p : Nat} (h : zd_b c.data.toList p [120] = true) : decode c p = .ok (.ishl, 1) := by
  exact zd_fin (by unfold Decoder.instr; exact zd_bind (zd_u1 h).1 rfl) (by omega)
theorem zd_121 {c : ByteArray} {p : Nat} (h : zd_b c.data.toList p [121] = true) : decode c p = .ok (.lshl, 1) := by
  exact zd_fin (by unfold Decoder.instr; exact zd_bind (zd_u1 h).1 rfl) (by omega)
theorem zd_122 {c : ByteArray} {p : Nat} (h : zd_b c.data.toList p [122] = true) : decode c p = .ok (.ishr, 1) := by
  exact zd_fin (by unfold Decoder.instr; exact zd_bind (zd_u1 h).1 rfl) (by omega)
theorem zd_123 {c : ByteArray} {p : Nat} (h : zd_b c.data.toList p [123] = true) : decode c p = .ok (.lshr, 1) := by
  exact zd_fin (by unfold Decoder.instr; exact zd_bind (zd_u1 h).1 rfl) (by omega)
theorem zd_125 {c : ByteArray} {p : Nat} (h : zd_b c.data.toList p [125] = true) : decode c p = .ok (.lushr, 1) := by
  exact zd_fin (by unfold Decoder.instr; exact zd_bind (zd_u1 h).1 rfl) (by omega)
theorem zd_126 {c : ByteArray} {p : Nat} (h : zd_b c.data.toList p [126] = true) : decode c p = .ok (.iand, 1) := by
  exact zd_fin (by unfold Decoder.instr; exact zd_bind (zd_u1 h).1 rfl) (by omega)
theorem zd_127 {c : ByteArray} {p : Nat} (h : zd_b c.data.toList p [127] = true) : decode c p = .ok (.land, 1) := by
  exact zd_fin (by unfold Decoder.instr; exact zd_bind (zd_u1 h).1 rfl) (by omega)
theorem zd_128 {c : ByteArray} {p : Nat} (h : zd_b c.data.toList p [128] = true) : decode c p = .ok (.ior, 1) := by
  exact zd_fin (by unfold Decoder.instr; exact zd_bind (zd_u1 h).1 rfl) (by omega)
theorem zd_129 {c : ByteArray} {p : Nat} (h : zd_b c.data.toList p [129] = true) : decode c p = .ok (.lor, 1) := by
  exact zd_fin (by unfold Decoder.instr; exact zd_bind (zd_u1 h).1 rfl) (by omega)
theorem zd_130 {c : ByteArray} {p : Nat} (h : zd_b c.data.toList p [130] = true) : decode c p = .ok (.ixor, 1) := by
  exact zd_fin (by unfold Decoder.instr; exact zd_bind (zd_u1 h).1 rfl) (by omega)
theorem zd_132 {c : ByteArray} {p : Nat} {zv : Int} (u v : Nat) (h : (zd_b c.data.toList p [132, u, v] && decide (Reader.signed 8 v = zv)) = true) : decode c p = .ok (.iinc u zv, 3) := by
  rw [Bool.and_eq_true] at h
  have hz := of_decide_eq_true h.2
  have e := zd_u1 h.1
  rw [← hz]
  have e2 := zd_u1 e.2
  exact zd_fin (by unfold Decoder.instr; exact zd_bind e.1 (zd_bind e2.1 (zd_bind (zd_s1 e2.2) rfl))) (by omega)
theorem zd_133 {c : ByteArray} {p : Nat} (h : zd_b c.data.toList p [133] = true) : decode c p = .ok (.i2l, 1) := by
  exact zd_fin (by unfold Decoder.instr; exact zd_bind (zd_u1 h).1 rfl) (by omega)
theorem zd_136 {c : ByteArray} {p : Nat} (h : zd_b c.data.toList p [136] = true) : decode c p = .ok (.l2i, 1) := by
  exact zd_fin (by unfold Decoder.instr; exact zd_bind (zd_u1 h).1 rfl) (by omega)
theorem zd_145 {c : ByteArray} {p : Nat} (h : zd_b c.data.toList p [145] = true) : decode c p = .ok (.i2b, 1) := by
  exact zd_fin (by unfold Decoder.instr; exact zd_bind (zd_u1 h).1 rfl) (by omega)
theorem zd_147 {c : ByteArray} {p : Nat} (h : zd_b c.data.toList p [147] = true) : decode c p = .ok (.i2s, 1) := by
  exact zd_fin (by unfold Decoder.instr; exact zd_bind (zd_u1 h).1 rfl) (by omega)
theorem zd_148 {c : ByteArray} {p : Nat} (h : zd_b c.data.toList p [148] = true) : decode c p = .ok (.lcmp, 1) := by
  exact zd_fin (by unfold Decoder.instr; exact zd_bind (zd_u1 h).1 rfl) (by omega)
theorem zd_153 {c : ByteArray} {p : Nat} {zu : Int} (u : Nat) (h : (zd_b c.data.toList p [153, u / 256, u % 256] && decide (Reader.signed 16 u = zu)) = true) : decode c p = .ok (.ifCond .eq zu, 3) := by
  rw [Bool.and_eq_true] at h
  have hz := of_decide_eq_true h.2
  have e := zd_u1 h.1
  rw [← hz]
  exact zd_fin (by unfold Decoder.instr; exact zd_bind e.1 (zd_bind (zd_s2 e.2) rfl)) (by omega)
theorem zd_154 {c : ByteArray} {p : Nat} {zu : Int} (u : Nat) (h : (zd_b c.data.toList p [154, u / 256, u % 256] && decide (Reader.signed 16 u = zu)) = true) : decode c p = .ok (.ifCond .ne zu, 3) := by
  rw [Bool.and_eq_true] at h
  have hz := of_decide_eq_true h.2
  have e := zd_u1 h.1
  rw [← hz]
  exact zd_fin (by unfold Decoder.instr; exact zd_bind e.1 (zd_bind (zd_s2 e.2) rfl)) (by omega)
theorem zd_155 {c : ByteArray} {p : Nat} {zu : Int} (u : Nat) (h : (zd_b c.data.toList p [155, u / 256, u % 256] && decide (Reader.signed 16 u = zu)) = true) : decode c p = .ok (.ifCond .lt zu, 3) := by
  rw [Bool.and_eq_true] at h
  have hz := of_decide_eq_true h.2
  have e := zd_u1 h.1
  rw [← hz]
  exact zd_fin (by unfold Decoder.instr; exact zd_bind e.1 (zd_bind (zd_s2 e.2) rfl)) (by omega)
theorem zd_156 {c : ByteArray} {p : Nat} {zu : Int} (u : Nat) (h : (zd_b c.data.toList p [156, u / 256, u % 256] && decide (Reader.signed 16 u = zu)) = true) : decode c p = .ok (.ifCond .ge zu, 3) := by
  rw [Bool.and_eq_true] at h
  have hz := of_decide_eq_true h.2
  have e := zd_u1 h.1
  rw [← hz]
  exact zd_fin (by unfold Decoder.instr; exact zd_bind e.1 (zd_bind (zd_s2 e.2) rfl)) (by omega)
theorem zd_157 {c : ByteArray} {p : Nat} {zu : Int} (u : Nat) (h : (zd_b c.data.toList p [157, u / 256, u % 256] && decide (Reader.signed 16 u = zu)) = true) : decode c p = .ok (.ifCond .gt zu, 3) := by
  rw [Bool.and_eq_true] at h
  have hz := of_decide_eq_true h.2
  have e := zd_u1 h.1
  rw [← hz]
  exact zd_fin (by unfold Decoder.instr; exact zd_bind e.1 (zd_bind (zd_s2 e.2) rfl)) (by omega)
theorem zd_158 {c : ByteArray} {p : Nat} {zu : Int} (u : Nat) (h : (zd_b c.data.toList p [158, u / 256, u % 256] && decide (Reader.signed 16 u = zu)) = true) : decode c p = .ok (.ifCond .le zu, 3) := by
  rw [Bool.and_eq_true] at h
  have hz := of_decide_eq_true h.2
  have e := zd_u1 h.1
  rw [← hz]
  exact zd_fin (by unfold Decoder.instr; exact zd_bind e.1 (zd_bind (zd_s2 e.2) rfl)) (by omega)
theorem zd_159 {c : ByteArray} {p : Nat} {zu : Int} (u : Nat) (h : (zd_b c.data.toList p [159, u / 256, u % 256] && decide (Reader.signed 16 u = zu)) = true) : decode c p = .ok (.if_icmp .eq zu, 3) := by
  rw [Bool.and_eq_true] at h
  have hz := of_decide_eq_true h.2
  have e := zd_u1 h.1
  rw [← hz]
  exact zd_fin (by unfold Decoder.instr; exact zd_bind e.1 (zd_bind (zd_s2 e.2) rfl)) (by omega)
theorem zd_16 {c : ByteArray} {p : Nat} {zu : Int} (u : Nat) (h : (zd_b c.data.toList p [16, u] && decide (Reader.signed 8 u = zu)) = true) : decode c p = .ok (.bipush zu, 2) := by
  rw [Bool.and_eq_true] at h
  have hz := of_decide_eq_true h.2
  have e := zd_u1 h.1
  rw [← hz]
  exact zd_fin (by unfold Decoder.instr; exact zd_bind e.1 (zd_bind (zd_s1 e.2) rfl)) (by omega)
theorem zd_160 {c : ByteArray} {p : Nat} {zu : Int} (u : Nat) (h : (zd_b c.data.toList p [160, u / 256, u % 256] && decide (Reader.signed 16 u = zu)) = true) : decode c p = .ok (.if_icmp .ne zu, 3) := by
  rw [Bool.and_eq_true] at h
  have hz := of_decide_eq_true h.2
  have e := zd_u1 h.1
  rw [← hz]
  exact zd_fin (by unfold Decoder.instr; exact zd_bind e.1 (zd_bind (zd_s2 e.2) rfl)) (by omega)
theorem zd_161 {c : ByteArray} {p : Nat} {zu : Int} (u : Nat) (h : (zd_b c.data.toList p [161, u / 256, u % 256] && decide (Reader.signed 16 u = zu)) = true) : decode c p = .ok (.if_icmp .lt zu, 3) := by
  rw [Bool.and_eq_true] at h
  have hz := of_decide_eq_true h.2
  have e := zd_u1 h.1
  rw [← hz]
  exact zd_fin (by unfold Decoder.instr; exact zd_bind e.1 (zd_bind (zd_s2 e.2) rfl)) (by omega)
theorem zd_162 {c : ByteArray} {p : Nat} {zu : Int} (u : Nat) (h : (zd_b c.data.toList p [162, u / 256, u % 256] && decide (Reader.signed 16 u = zu)) = true) : decode c p = .ok (.if_icmp .ge zu, 3) := by
  rw [Bool.and_eq_true] at h
  have hz := of_decide_eq_true h.2
  have e := zd_u1 h.1
  rw [← hz]
  exact zd_fin (by unfold Decoder.instr; exact zd_bind e.1 (zd_bind (zd_s2 e.2) rfl)) (by omega)
theorem zd_163 {c : ByteArray} {p : Nat} {zu : Int} (u : Nat) (h : (zd_b c.data.toList p [163, u / 256, u % 256] && decide (Reader.signed 16 u = zu)) = true) : decode c p = .ok (.if_icmp .gt zu, 3) := by
  rw [Bool.and_eq_true] at h
  have hz := of_decide_eq_true h.2
  have e := zd_u1 h.1
  rw [← hz]
  exact zd_fin (by unfold Decoder.instr; exact zd_bind e.1 (zd_bind (zd_s2 e.2) rfl)) (by omega)
theorem zd_164 {c : ByteArray} {p : Nat} {zu : Int} (u : Nat) (h : (zd_b c.data.toList p [164, u / 256, u % 256] && decide (Reader.signed 16 u = zu)) = true) : decode c p = .ok (.if_icmp .le zu, 3) := by
  rw [Bool.and_eq_true] at h
  have hz := of_decide_eq_true h.2
  have e := zd_u1 h.1
  rw [← hz]
  exact zd_fin (by unfold Decoder.instr; exact zd_bind e.1 (zd_bind (zd_s2 e.2) rfl)) (by omega)
theorem zd_167 {c : ByteArray} {p : Nat} {zu : Int} (u : Nat) (h : (zd_b c.data.toList p [167, u / 256, u % 256] && decide (Reader.signed 16 u = zu)) = true) : decode c p = .ok (.goto zu, 3) := by
  rw [Bool.and_eq_true] at h
  have hz := of_decide_eq_true h.2
  have e := zd_u1 h.1
  rw [← hz]
  exact zd_fin (by unfold Decoder.instr; exact zd_bind e.1 (zd_bind (zd_s2 e.2) rfl)) (by omega)
theorem zd_17 {c : ByteArray} {p : Nat} {zu : Int} (u : Nat) (h : (zd_b c.data.toList p [17, u / 256, u % 256] && decide (Reader.signed 16 u = zu)) = true) : decode c p = .ok (.sipush zu, 3) := by
  rw [Bool.and_eq_true] at h
  have hz := of_decide_eq_true h.2
  have e := zd_u1 h.1
  rw [← hz]
  exact zd_fin (by unfold Decoder.instr; exact zd_bind e.1 (zd_bind (zd_s2 e.2) rfl)) (by omega)
theorem zd_172 {c : ByteArray} {p : Nat} (h : zd_b c.data.toList p [172] = true) : decode c p = .ok (.ireturn, 1) := by
  exact zd_fin (by unfold Decoder.instr; exact zd_bind (zd_u1 h).1 rfl) (by omega)
theorem zd_176 {c : ByteArray} {p : Nat} (h : zd_b c.data.toList p [176] = true) : decode c p = .ok (.areturn, 1) := by
  exact zd_fin (by unfold Decoder.instr; exact zd_bind (zd_u1 h).1 rfl) (by omega)
theorem zd_177 {c : ByteArray} {p : Nat} (h : zd_b c.data.toList p [177] = true) : decode c p = .ok (.return_, 1) := by
  exact zd_fin (by unfold Decoder.instr; exact zd_bind (zd_u1 h).1 rfl) (by omega)
theorem zd_18 {c : ByteArray} {p u : Nat} (h : zd_b c.data.toList p [18, u] = true) : decode c p = .ok (.ldc u, 2) := by
  have e := zd_u1 h
  exact zd_fin (by unfold Decoder.instr; exact zd_bind e.1 (zd_bind (zd_u1 e.2).1 rfl)) (by omega)
theorem zd_180 {c : ByteArray} {p u : Nat} (h : zd_b c.data.toList p [180, u / 256, u % 256] = true) : decode c p = .ok (.getfield u, 3) := by
  have e := zd_u1 h
  exact zd_fin (by unfold Decoder.instr; exact zd_bind e.1 (zd_bind (zd_u2 e.2).1 rfl)) (by omega)
theorem zd_181 {c : ByteArray} {p u : Nat} (h : zd_b c.data.toList p [181, u / 256, u % 256] = true) : decode c p = .ok (.putfield u, 3) := by
  have e := zd_u1 h
  exact zd_fin (by unfold Decoder.instr; exact zd_bind e.1 (zd_bind (zd_u2 e.2).1 rfl)) (by omega)
theorem zd_182 {c : ByteArray} {p u : Nat} (h : zd_b c.data.toList p [182, u / 256, u % 256] = true) : decode c p = .ok (.invokevirtual u, 3) := by
  have e := zd_u1 h
  exact zd_fin (by unfold Decoder.instr; exact zd_bind e.1 (zd_bind (zd_u2 e.2).1 rfl)) (by omega)
theorem zd_183 {c : ByteArray} {p u : Nat} (h : zd_b c.data.toList p [183, u / 256, u % 256] = true) : decode c p = .ok (.invokespecial u, 3) := by
  have e := zd_u1 h
  exact zd_fin (by unfold Decoder.instr; exact zd_bind e.1 (zd_bind (zd_u2 e.2).1 rfl)) (by omega)
theorem zd_184 {c : ByteArray} {p u : Nat} (h : zd_b c.data.toList p [184, u / 256, u % 256] = true) : decode c p = .ok (.invokestatic u, 3) := by
  have e := zd_u1 h
  exact zd_fin (by unfold Decoder.instr; exact zd_bind e.1 (zd_bind (zd_u2 e.2).1 rfl)) (by omega)
theorem zd_187 {c : ByteArray} {p u : Nat} (h : zd_b c.data.toList p [187, u / 256, u % 256] = true) : decode c p = .ok (.new u, 3) := by
  have e := zd_u1 h
  exact zd_fin (by unfold Decoder.instr; exact zd_bind e.1 (zd_bind (zd_u2 e.2).1 rfl)) (by omega)
theorem zd_189 {c : ByteArray} {p u : Nat} (h : zd_b c.data.toList p [189, u / 256, u % 256] = true) : decode c p = .ok (.anewarray u, 3) := by
  have e := zd_u1 h
  exact zd_fin (by unfold Decoder.instr; exact zd_bind e.1 (zd_bind (zd_u2 e.2).1 rfl)) (by omega)
theorem zd_190 {c : ByteArray} {p : Nat} (h : zd_b c.data.toList p [190] = true) : decode c p = .ok (.arraylength, 1) := by
  exact zd_fin (by unfold Decoder.instr; exact zd_bind (zd_u1 h).1 rfl) (by omega)
theorem zd_198 {c : ByteArray} {p : Nat} {zu : Int} (u : Nat) (h : (zd_b c.data.toList p [198, u / 256, u % 256] && decide (Reader.signed 16 u = zu)) = true) : decode c p = .ok (.ifnull zu, 3) := by
  rw [Bool.and_eq_true] at h
  have hz := of_decide_eq_true h.2
  have e := zd_u1 h.1
  rw [← hz]
  exact zd_fin (by unfold Decoder.instr; exact zd_bind e.1 (zd_bind (zd_s2 e.2) rfl)) (by omega)
theorem zd_199 {c : ByteArray} {p : Nat} {zu : Int} (u : Nat) (h : (zd_b c.data.toList p [199, u / 256, u % 256] && decide (Reader.signed 16 u = zu)) = true) : decode c p = .ok (.ifnonnull zu, 3) := by
  rw [Bool.and_eq_true] at h
  have hz := of_decide_eq_true h.2
  have e := zd_u1 h.1
  rw [← hz]
  exact zd_fin (by unfold Decoder.instr; exact zd_bind e.1 (zd_bind (zd_s2 e.2) rfl)) (by omega)
theorem zd_2 {c : ByteArray} {p : Nat} (h : zd_b c.data.toList p [2] = true) : decode c p = .ok ((.iconst (-1)), 1) := by
  exact zd_fin (by unfold Decoder.instr; exact zd_bind (zd_u1 h).1 rfl) (by omega)
theorem zd_20 {c : ByteArray} {p u : Nat} (h : zd_b c.data.toList p [20, u / 256, u % 256] = true) : decode c p = .ok (.ldc2_w u, 3) := by
  have e := zd_u1 h
  exact zd_fin (by unfold Decoder.instr; exact zd_bind e.1 (zd_bind (zd_u2 e.2).1 rfl)) (by omega)
theorem zd_21 {c : ByteArray} {p u : Nat} (h : zd_b c.data.toList p [21, u] = true) : decode c p = .ok (.iload u, 2) := by
  have e := zd_u1 h
  exact zd_fin (by unfold Decoder.instr; exact zd_bind e.1 (zd_bind (zd_u1 e.2).1 rfl)) (by omega)
theorem zd_22 {c : ByteArray} {p u : Nat} (h : zd_b c.data.toList p [22, u] = true) : decode c p = .ok (.lload u, 2) := by
  have e := zd_u1 h
  exact zd_fin (by unfold Decoder.instr; exact zd_bind e.1 (zd_bind (zd_u1 e.2).1 rfl)) (by omega)
theorem zd_25 {c : ByteArray} {p u : Nat} (h : zd_b c.data.toList p [25, u] = true) : decode c p = .ok (.aload u, 2) := by
  have e := zd_u1 h
  exact zd_fin (by unfold Decoder.instr; exact zd_bind e.1 (zd_bind (zd_u1 e.2).1 rfl)) (by omega)
theorem zd_26 {c : ByteArray} {p : Nat} (h : zd_b c.data.toList p [26] = true) : decode c p = .ok (.iload_n 0, 1) := by
  exact zd_fin (by unfold Decoder.instr; exact zd_bind (zd_u1 h).1 rfl) (by omega)
theorem zd_27 {c : ByteArray} {p : Nat} (h : zd_b c.data.toList p [27] = true) : decode c p = .ok (.iload_n 1, 1) := by
  exact zd_fin (by unfold Decoder.instr; exact zd_bind (zd_u1 h).1 rfl) (by omega)
theorem zd_28 {c : ByteArray} {p : Nat} (h : zd_b c.data.toList p [28] = true) : decode c p = .ok (.iload_n 2, 1) := by
  exact zd_fin (by unfold Decoder.instr; exact zd_bind (zd_u1 h).1 rfl) (by omega)
theorem zd_29 {c : ByteArray} {p : Nat} (h : zd_b c.data.toList p [29] = true) : decode c p = .ok (.iload_n 3, 1) := by
  exact zd_fin (by unfold Decoder.instr; exact zd_bind (zd_u1 h).1 rfl) (by omega)
theorem zd_3 {c : ByteArray} {p : Nat} (h : zd_b c.data.toList p [3] = true) : decode c p = .ok (.iconst 0, 1) := by
  exact zd_fin (by unfold Decoder.instr; exact zd_bind (zd_u1 h).1 rfl) (by omega)
theorem zd_30 {c : ByteArray} {p : Nat} (h : zd_b c.data.toList p [30] = true) : decode c p = .ok (.lload_n 0, 1) := by
  exact zd_fin (by unfold Decoder.instr; exact zd_bind (zd_u1 h).1 rfl) (by omega)
theorem zd_31 {c : ByteArray} {p : Nat} (h : zd_b c.data.toList p [31] = true) : decode c p = .ok (.lload_n 1, 1) := by
  exact zd_fin (by unfold Decoder.instr; exact zd_bind (zd_u1 h).1 rfl) (by omega)
theorem zd_32 {c : ByteArray} {p : Nat} (h : zd_b c.data.toList p [32] = true) : decode c p = .ok (.lload_n 2, 1) := by
  exact zd_fin (by unfold Decoder.instr; exact zd_bind (zd_u1 h).1 rfl) (by omega)
theorem zd_4 {c : ByteArray} {p : Nat} (h : zd_b c.data.toList p [4] = true) : decode c p = .ok (.iconst 1, 1) := by
  exact zd_fin (by unfold Decoder.instr; exact zd_bind (zd_u1 h).1 rfl) (by omega)
theorem zd_42 {c : ByteArray} {p : Nat} (h : zd_b c.data.toList p [42] = true) : decode c p = .ok (.aload_n 0, 1) := by
  exact zd_fin (by unfold Decoder.instr; exact zd_bind (zd_u1 h).1 rfl) (by omega)
theorem zd_43 {c : ByteArray} {p : Nat} (h : zd_b c.data.toList p [43] = true) : decode c p = .ok (.aload_n 1, 1) := by
  exact zd_fin (by unfold Decoder.instr; exact zd_bind (zd_u1 h).1 rfl) (by omega)
theorem zd_44 {c : ByteArray} {p : Nat} (h : zd_b c.data.toList p [44] = true) : decode c p = .ok (.aload_n 2, 1) := by
  exact zd_fin (by unfold Decoder.instr; exact zd_bind (zd_u1 h).1 rfl) (by omega)
theorem zd_45 {c : ByteArray} {p : Nat} (h : zd_b c.data.toList p [45] = true) : decode c p = .ok (.aload_n 3, 1) := by
  exact zd_fin (by unfold Decoder.instr; exact zd_bind (zd_u1 h).1 rfl) (by omega)
theorem zd_46 {c : ByteArray} {p : Nat} (h : zd_b c.data.toList p [46] = true) : decode c p = .ok (.iaload, 1) := by
  exact zd_fin (by unfold Decoder.instr; exact zd_bind (zd_u1 h).1 rfl) (by omega)
theorem zd_5 {c : ByteArray} {p : Nat} (h : zd_b c.data.toList p [5] = true) : decode c p = .ok (.iconst 2, 1) := by
  exact zd_fin (by unfold Decoder.instr; exact zd_bind (zd_u1 h).1 rfl) (by omega)
theorem zd_50 {c : ByteArray} {p : Nat} (h : zd_b c.data.toList p [50] = true) : decode c p = .ok (.aaload, 1) := by
  exact zd_fin (by unfold Decoder.instr; exact zd_bind (zd_u1 h).1 rfl) (by omega)
theorem zd_54 {c : ByteArray} {p u : Nat} (h : zd_b c.data.toList p [54, u] = true) : decode c p = .ok (.istore u, 2) := by
  have e := zd_u1 h
  exact zd_fin (by unfold Decoder.instr; exact zd_bind e.1 (zd_bind (zd_u1 e.2).1 rfl)) (by omega)
theorem zd_58 {c : ByteArray} {p u : Nat} (h : zd_b c.data.toList p [58, u] = true) : decode c p = .ok (.astore u, 2) := by
  have e := zd_u1 h
  exact zd_fin (by unfold Decoder.instr; exact zd_bind e.1 (zd_bind (zd_u1 e.2).1 rfl)) (by omega)
theorem zd_6 {c : ByteArray} {p : Nat} (h : zd_b c.data.toList p [6] = true) : decode c p = .ok (.iconst 3, 1) := by
  exact zd_fin (by unfold Decoder.instr; exact zd_bind (zd_u1 h).1 rfl) (by omega)
theorem zd_60 {c : ByteArray} {p : Nat} (h : zd_b c.data.toList p [60] = true) : decode c p = .ok (.istore_n 1, 1) := by
  exact zd_fin (by unfold Decoder.instr; exact zd_bind (zd_u1 h).1 rfl) (by omega)
theorem zd_61 {c : ByteArray} {p : Nat} (h : zd_b c.data.toList p [61] = true) : decode c p = .ok (.istore_n 2, 1) := by
  exact zd_fin (by unfold Decoder.instr; exact zd_bind (zd_u1 h).1 rfl) (by omega)
theorem zd_62 {c : ByteArray} {p : Nat} (h : zd_b c.data.toList p [62] = true) : decode c p = .ok (.istore_n 3, 1) := by
  exact zd_fin (by unfold Decoder.instr; exact zd_bind (zd_u1 h).1 rfl) (by omega)
theorem zd_7 {c : ByteArray} {p : Nat} (h : zd_b c.data.toList p [7] = true) : decode c p = .ok (.iconst 4, 1) := by
  exact zd_fin (by unfold Decoder.instr; exact zd_bind (zd_u1 h).1 rfl) (by omega)
theorem zd_76 {c : ByteArray} {p : Nat} (h : zd_b c.data.toList p [76] = true) : decode c p = .ok (.astore_n 1, 1) := by
  exact zd_fin (by unfold Decoder.instr; exact zd_bind (zd_u1 h).1 rfl) (by omega)
theorem zd_77 {c : ByteArray} {p : Nat} (h : zd_b c.data.toList p [77] = true) : decode c p = .ok (.astore_n 2, 1) := by
  exact zd_fin (by unfold Decoder.instr; exact zd_bind (zd_u1 h).1 rfl) (by omega)
theorem zd_78 {c : ByteArray} {p : Nat} (h : zd_b c.data.toList p [78] = true) : decode c p = .ok (.astore_n 3, 1) := by
  exact zd_fin (by unfold Decoder.instr; exact zd_bind (zd_u1 h).1 rfl) (by omega)
theorem zd_79 {c : ByteArray} {p : Nat} (h : zd_b c.data.toList p [79] = true) : decode c p = .ok (.iastore, 1) := by
  exact zd_fin (by unfold Decoder.instr; exact zd_bind (zd_u1 h).1 rfl) (by omega)
theorem zd_8 {c : ByteArray} {p : Nat} (h : zd_b c.data.toList p [8] = true) : decode c p = .ok (.iconst 5, 1) := by
  exact zd_fin (by unfold Decoder.instr; exact zd_bind (zd_u1 h).1 rfl) (by omega)
theorem zd_83 {c : ByteArray} {p : Nat} (h : zd_b c.data.toList p [83] = true) : decode c p = .ok (.aastore, 1) := by
  exact zd_fin (by unfold Decoder.instr; exact zd_bind (zd_u1 h).1 rfl) (by omega)
theorem zd_87 {c : ByteArray} {p : Nat} (h : zd_b c.data.toList p [87] = true) : decode c p = .ok (.pop, 1) := by
  exact zd_fin (by unfold Decoder.instr; exact zd_bind (zd_u1 h).1 rfl) (by omega)
theorem zd_89 {c : ByteArray} {p : Nat} (h : zd_b c.data.toList p [89] = true) : decode c p = .ok (.dup, 1) := by
  exact zd_fin (by unfold Decoder.instr; exact zd_bind (zd_u1 h).1 rfl) (by omega)
theorem zd_9 {c : ByteArray} {p : Nat} (h : zd_b c.data.toList p [9] = true) : decode c p = .ok (.lconst 0, 1) := by
  exact zd_fin (by unfold Decoder.instr; exact zd_bind (zd_u1 h).1 rfl) (by omega)
theorem zd_90 {c : ByteArray} {p : Nat} (h : zd_b c.data.toList p [90] = true) : decode c p = .ok (.dup_x1, 1) := by
  exact zd_fin (by unfold Decoder.instr; exact zd_bind (zd_u1 h).1 rfl) (by omega)
theorem zd_92 {c : ByteArray} {p : Nat} (h : zd_b c.data.toList p [92] = true) : decode c p = .ok (.dup2, 1) := by
  exact zd_fin (by unfold Decoder.instr; exact zd_bind (zd_u1 h).1 rfl) (by omega)
theorem zd_96 {c : ByteArray} {p : Nat} (h : zd_b c.data.toList p [96] = true) : decode c p = .ok (.iadd, 1) := by
  exact zd_fin (by unfold Decoder.instr; exact zd_bind (zd_u1 h).1 rfl) (by omega)
theorem zd_na_int {c : ByteArray} {p : Nat} (h : zd_b c.data.toList p [188, 10] = true) : decode c p = .ok (.newarray .int, 2) := by
  have e := zd_u1 h
  exact zd_fin (by unfold Decoder.instr; exact zd_bind e.1 (by unfold Decoder.newarray; exact zd_bind (zd_u1 e.2).1 rfl)) (by omega)
