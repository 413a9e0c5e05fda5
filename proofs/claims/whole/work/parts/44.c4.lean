theorem Ct.ofF {y : MethodName} {cc : ByteArray} {nL : Nat} {rt : Option FieldType} {fr lw : Nat} {av : List Value} {X : Hp} {kc ks : Nat} {post : Option Value → Hp → Prop} (hs : plainFor y = true) (lo : List (Option Value)) (hlo : eo av ++ List.replicate (nL - (eo av).length) none = lo) (hle : (eo av).length ≤ nL)
    (body : ∀ φ : Fi, Fx φ cc nL y.cls rt y.name fr lw kc ks → Rx φ X kc ks post → Jd φ X 0 0 0 lo []) : Ct y cc nL rt fr lw av X kc ks post := by
  intro l D cy sz
  refine va_MetF (cc := cc) (maxL := nL) (ret := rt) hs rfl ?_
  intro p e s m args below meth c s₁ B hml hv
  obtain ⟨rfl, rfl, hKw, hK, hP⟩ := hv
  rw [lg_entry_eq]
  exact body ((p, l, e, _, s), (m, av.toArray, below, meth, c), D, cy, AX X s.heap.size, _, X) ⟨B.exec, B.bytes, hml, findClass_of_methodNamed B.named, hKw, B.notSynchronized, B.returns, (name_of_methodNamed B.named B.method).1, hK, fun q h => Or.inr h, rfl⟩ ⟨rfl, rfl, rfl⟩ s.heap [] _ (hP.self (fun a q h => Or.inl ⟨q, h⟩)) (XE.refl X) va_S.rf (hlo ▸ lh.entry av hle)
/-! Wishes, statics, the JDK's -/
theorem keepN {X X1 : Hp} {q : Nat} {v : Option (Nat × Cel)} (e : X1 = va_up X q v) (hq : X q = none) : FB 0 0 X X1 := FB.new e hq
theorem keepN2 {X X1 X2 : Hp} {q : Nat} {v v2 : Option (Nat × Cel)} (e : X1 = va_up X q v) (hq : X q = none) (e2 : X2 = va_up X1 q v2) : FB 0 0 X X2 := fun a l c h _ => by
  have hn : a ≠ q := fun e => by rw [e, hq] at h; cases h
  rw [e2, va_up_ne _ _ hn, e, va_up_ne _ _ hn]; exact h
set_option maxRecDepth 100000 in
set_option maxHeartbeats 4000000 in
theorem c_X6_sizeOf {X : Hp} {b : Nat} {ws wz wt : Nat} {fz ft : Int → Int} (hM : WP X b ws wz wt fz ft) {w : Int} (hw : 0 ≤ w ∧ w ≤ 1) : Ct yX6_sizeOf cX6_sizeOf 2 (some .int) 0 0 [.ref ws, vi w] X 0 0 (fun rv X' => rv = some (vi (fz w)) ∧ X' = X) := by
  refine Ct.of (by decide +kernel) [some (.ref ws), some (vi w)] rfl (Nat.le_of_ble_eq_true rfl) (fun φ hF hR => ?_)
  have hM := hM.gg
  refine j_aload_n hF dX6_sizeOf_0 rfl (j_get hF hM.1.1 fl_RX6_9 dX6_sizeOf_1 rfl (j_iload_n hF dX6_sizeOf_4 rfl (j_iald hF hM.1.2.1 dX6_sizeOf_5 (by omega) (fun ra1 rb1 => ?_))))
  refine j_iret hF hR dX6_sizeOf_6 (by omega) (by omega) ?_
  exact ⟨rfl, rfl⟩

set_option maxRecDepth 100000 in
set_option maxHeartbeats 4000000 in
theorem c_X6_stampAt {X : Hp} {b : Nat} {ws wz wt : Nat} {fz ft : Int → Int} (hM : WP X b ws wz wt fz ft) {w i : Int} (hw : 0 ≤ w ∧ w ≤ 1) (hi : 0 ≤ i ∧ i < 12) : Ct yX6_stampAt cX6_stampAt 3 (some .int) 0 0 [.ref ws, vi w, vi i] X 0 0 (fun rv X' => rv = some (vi (ft (12 * w + i))) ∧ X' = X) := by
  refine Ct.of (by decide +kernel) [some (.ref ws), some (vi w), some (vi i)] rfl (Nat.le_of_ble_eq_true rfl) (fun φ hF hR => ?_)
  have hM := hM.gg
  refine j_aload_n hF dX6_stampAt_0 rfl (j_get hF hM.1.1 fl_RX6_15 dX6_stampAt_1 rfl (j_iload_n hF dX6_stampAt_4 rfl (j_bipush hF dX6_stampAt_5 (by decide) (j_imul hF dX6_stampAt_7 (j_iload_n hF dX6_stampAt_8 rfl ?_)))))
  refine j_iadd hF dX6_stampAt_9 (j_iald hF hM.1.2.2 dX6_stampAt_10 (by omega) (fun ra1 rb1 => ?_))
  refine j_iret hF hR dX6_stampAt_11 (by omega) (by omega) ?_
  rw [show w * 12 + i = 12 * w + i by omega]
  exact ⟨rfl, rfl⟩

set_option maxRecDepth 100000 in
set_option maxHeartbeats 4000000 in
theorem c_X6_isFull {X : Hp} {b : Nat} {ws wz wt : Nat} {fz ft : Int → Int} (hM : WP X b ws wz wt fz ft) {w : Int} (hw : 0 ≤ w ∧ w ≤ 1) (hz : 0 ≤ fz w ∧ fz w ≤ 12) : Ct yX6_isFull cX6_isFull 2 (some .boolean) 0 0 [.ref ws, vi w] X 0 0 (fun rv X' => rv = some (vi (bz (fz w = 12))) ∧ X' = X) := by
  refine Ct.of (by decide +kernel) [some (.ref ws), some (vi w)] rfl (Nat.le_of_ble_eq_true rfl) (fun φ hF hR => ?_)
  have hM := hM.gg
  refine j_aload_n hF dX6_isFull_0 rfl (j_get hF hM.1.1 fl_RX6_9 dX6_isFull_1 rfl (j_iload_n hF dX6_isFull_4 rfl (j_iald hF hM.1.2.1 dX6_isFull_5 (by omega) (fun ra1 rb1 => ?_))))
  refine j_bipush hF dX6_isFull_6 (by decide) (j_icmp_lt hF 15 dX6_isFull_8 (by decide) (by omega) (fun c8 => ?_) (fun c8 => ?_))
  ·
    refine j_iconst hF dX6_isFull_15 (j_zret hF hR (Or.inl rfl) dX6_isFull_16 (by omega) (by omega) ?_)
    exact ⟨bz_r0 (by omega), rfl⟩
  ·
    refine j_iconst hF dX6_isFull_11 (j_goto hF 16 dX6_isFull_12 (by decide) (j_zret hF hR (Or.inr rfl) dX6_isFull_16 (by omega) (by omega) ?_))
    exact ⟨bz_r1 (by omega), rfl⟩

set_option maxRecDepth 100000 in
set_option maxHeartbeats 4000000 in
theorem c_X6_put {X : Hp} {b : Nat} {ws wz wt : Nat} {fz ft : Int → Int} (hM : WP X b ws wz wt fz ft) {w x : Int} (hw : 0 ≤ w ∧ w ≤ 1) (hz : 0 ≤ fz w ∧ fz w < 12) (hx : 0 ≤ x ∧ x < 16000) : Ct yX6_put cX6_put 3 none 0 0 [.ref ws, vi w, vi x] X 0 0 (fun rv X' => rv = none ∧ WPG X X' b ws wz wt (fu fz w (fz w + 1)) (fu ft (12 * w + fz w) x)) := by
  refine Ct.of (by decide +kernel) [some (.ref ws), some (vi w), some (vi x)] rfl (Nat.le_of_ble_eq_true rfl) (fun φ hF hR => ?_)
  have hM := hM.gg
  refine j_aload_n hF dX6_put_0 rfl (j_get hF hM.1.1 fl_RX6_15 dX6_put_1 rfl (j_iload_n hF dX6_put_4 rfl (j_bipush hF dX6_put_5 (by decide) (j_imul hF dX6_put_7 (j_aload_n hF dX6_put_8 rfl ?_)))))
  refine j_get hF hM.1.1 fl_RX6_9 dX6_put_9 rfl (j_iload_n hF dX6_put_12 rfl (j_iald hF hM.1.2.1 dX6_put_13 (by omega) (fun ra1 rb1 => ?_)))
  rw [show w * 12 = 12 * w by omega]
  refine j_iadd hF dX6_put_14 (j_iload_n hF dX6_put_15 rfl (j_iast hF hM.1.2.2 dX6_put_16 (by omega) (by omega) (j_nm (fun X2 eX2 => ?_))))
  have hM := hM.u_ft eX2
  refine j_aload_n hF dX6_put_17 rfl (j_get hF hM.1.1 fl_RX6_9 dX6_put_18 rfl (j_iload_n hF dX6_put_21 rfl (j_dup2 hF dX6_put_22 rfl rfl (j_iald hF hM.1.2.1 dX6_put_23 (by omega) (fun ra3 rb3 => ?_)))))
  refine j_iconst hF dX6_put_24 (j_iadd hF dX6_put_25 (j_iast hF hM.1.2.1 dX6_put_26 (by omega) (by omega) (j_nm (fun X4 eX4 => ?_))))
  have hM := hM.u_fz eX4
  refine j_vret hF hR dX6_put_27 (by omega) (by omega) ?_
  exact ⟨rfl, hM⟩

set_option maxRecDepth 100000 in
set_option maxHeartbeats 4000000 in
theorem c_X6_countAt {X : Hp} {b : Nat} {ws wz wt : Nat} {fz ft : Int → Int} (hM : WP X b ws wz wt fz ft) {w nd : Int} (hw : 0 ≤ w ∧ w ≤ 1) (hz : 0 ≤ fz w ∧ fz w ≤ 12) (hs : ∀ i, 0 ≤ i → i < fz w → 0 ≤ ft (12 * w + i) ∧ ft (12 * w + i) < 16000) (hnd : 0 ≤ nd ∧ nd < 16) : Ct yX6_countAt cX6_countAt 5 (some .int) 1 22 [.ref ws, vi w, vi nd] X 0 0 (fun rv X' => rv = some (vi (cf (fun i => if ft (12 * w + i) / 1000 = nd then 1 else 0) (fz w).toNat)) ∧ X' = X) := by
  refine Ct.of (by decide +kernel) [some (.ref ws), some (vi w), some (vi nd), none, none] rfl (Nat.le_of_ble_eq_true rfl) (fun φ hF hR => ?_)
  have hM := hM.gg
  refine j_iconst hF dX6_countAt_0 (j_istore_n hF dX6_countAt_1 (Nat.le_of_ble_eq_true rfl) rfl (j_iconst hF dX6_countAt_2 (j_istore hF dX6_countAt_3 (Nat.le_of_ble_eq_true rfl) rfl ?_)))
  have LL : ∀ (n : Nat) (k : Nat), ((fz w).toNat - k) < n → (k : Int) ≤ fz w → Jd φ X 0 0 5 [some (.ref ws), some (vi w), some (vi nd), some (vi (cf (fun i => if ft (12 * w + i) / 1000 = nd then 1 else 0) k)), some (vi (k : Int))] [] := by
    intro n
    induction n with
    | zero => intro k hfu; exact absurd hfu (by omega)
    | succ n ih =>
      intro k hfu hk
      refine j_iload hF dX6_countAt_5 rfl (j_aload_n hF dX6_countAt_7 rfl (j_get hF hM.1.1 fl_RX6_9 dX6_countAt_8 rfl (j_iload_n hF dX6_countAt_11 rfl (j_iald hF hM.1.2.1 dX6_countAt_12 (by omega) (fun ra1 rb1 => ?_)))))
      refine j_icmp_ge hF 40 dX6_countAt_13 (by decide) (by omega) (fun c13 => ?_) (fun c13 => ?_)
      ·
        refine j_iload_n hF dX6_countAt_40 rfl (j_iret hF hR dX6_countAt_41 (by omega) (by omega) ?_)
        have ek : k = (fz w).toNat := by omega
        exact ⟨by rw [ek], rfl⟩
      ·
        refine j_aload_n hF dX6_countAt_16 rfl (j_iload_n hF dX6_countAt_17 rfl (j_iload hF dX6_countAt_18 rfl (j_callV hF (c_X6_stampAt hM.1 (by omega) (by omega)) ms_X6_stampAt mv_X6_stampAt lk_RX6_18 dX6_countAt_20 hM.1.1 rfl rfl rfl (by simp [Value.category]) ⟨⟨(Nat.le_of_ble_eq_true rfl), (Nat.le_of_ble_eq_true rfl)⟩, by omega, by omega⟩ (fun v2 X2 hp2 hE2 => ?_))))
        obtain ⟨rfl, he2⟩ := hp2; obtain rfl := he2.symm
        have hq := hs (k : Int) (by omega) (by omega)
        refine j_sipush hF dX6_countAt_23 (by decide) (j_idiv hF dX6_countAt_26 (by omega) (j_iload_n hF dX6_countAt_27 rfl (j_icmp_ne hF 34 dX6_countAt_28 (by decide) (by omega) (fun c28 => ?_) (fun c28 => ?_))))
        ·
          refine j_iinc hF dX6_countAt_34 rfl (Nat.le_of_ble_eq_true rfl) rfl (j_goto hF 5 dX6_countAt_37 (by decide) ?_)
          have ei : ((k + 1 : Nat) : Int) = (k : Int) + 1 := by omega
          have es : cf (fun i => if ft (12 * w + i) / 1000 = nd then 1 else 0) (k + 1) = cf (fun i => if ft (12 * w + i) / 1000 = nd then 1 else 0) k + (if ft (12 * w + (k : Int)) / 1000 = nd then 1 else 0) := rfl
          first | rw [if_neg c28] at es | rw [if_pos c28] at es
          have g := ih (k + 1) (by omega) (by omega)
          rw [es, ei] at g
          first | exact g | (rw [Int.add_zero] at g; exact g)
        ·
          refine j_iinc hF dX6_countAt_31 rfl (Nat.le_of_ble_eq_true rfl) rfl (j_iinc hF dX6_countAt_34 rfl (Nat.le_of_ble_eq_true rfl) rfl (j_goto hF 5 dX6_countAt_37 (by decide) ?_))
          have ei : ((k + 1 : Nat) : Int) = (k : Int) + 1 := by omega
          have es : cf (fun i => if ft (12 * w + i) / 1000 = nd then 1 else 0) (k + 1) = cf (fun i => if ft (12 * w + i) / 1000 = nd then 1 else 0) k + (if ft (12 * w + (k : Int)) / 1000 = nd then 1 else 0) := rfl
          first | rw [if_neg c28] at es | rw [if_pos c28] at es
          have g := ih (k + 1) (by omega) (by omega)
          rw [es, ei] at g
          first | exact g | (rw [Int.add_zero] at g; exact g)
  exact LL ((fz w).toNat + 1) 0 (by omega) (by omega)

set_option maxRecDepth 100000 in
set_option maxHeartbeats 4000000 in
theorem c_X6_remove {X : Hp} {b : Nat} {ws wz wt : Nat} {fz ft : Int → Int} (hM : WP X b ws wz wt fz ft) {w x : Int} (hw : 0 ≤ w ∧ w ≤ 1) (hz : 0 ≤ fz w ∧ fz w ≤ 12) (hs : ∀ i, 0 ≤ i → i < 24 → -2147483648 ≤ ft i ∧ ft i ≤ 2147483647) (hx : 0 ≤ x ∧ x < 16000) (hex : ∃ j, 0 ≤ j ∧ j < fz w ∧ ft (12 * w + j) = x) : Ct yX6_remove cX6_remove 4 none 1 22 [.ref ws, vi w, vi x] X 0 0 (fun rv X' => rv = none ∧ ∃ i, 0 ≤ i ∧ i < fz w ∧ ft (12 * w + i) = x ∧ WPG X X' b ws wz wt (fu fz w (fz w - 1)) (fu ft (12 * w + i) (ft (12 * w + (fz w - 1))))) := by
  refine Ct.of (by decide +kernel) [some (.ref ws), some (vi w), some (vi x), none] rfl (Nat.le_of_ble_eq_true rfl) (fun φ hF hR => ?_)
  have hM := hM.gg
  refine j_iconst hF dX6_remove_0 (j_istore_n hF dX6_remove_1 (Nat.le_of_ble_eq_true rfl) rfl ?_)
  have LL : ∀ (n : Nat) (i : Int), (12 - i).toNat < n → 0 ≤ i ∧ i ≤ fz w → BA (fun j => ¬ ft (12 * w + j) = x) i → Jd φ X 0 0 2 [some (.ref ws), some (vi w), some (vi x), some (vi i)] [] := by
    intro n
    induction n with
    | zero => intro i hfu; exact absurd hfu (by omega)
    | succ n ih =>
      intro i hfu hi hN
      refine j_iload_n hF dX6_remove_2 rfl (j_aload_n hF dX6_remove_3 rfl (j_get hF hM.1.1 fl_RX6_9 dX6_remove_4 rfl (j_iload_n hF dX6_remove_7 rfl (j_iald hF hM.1.2.1 dX6_remove_8 (by omega) (fun ra1 rb1 => ?_)))))
      refine j_icmp_ge hF 61 dX6_remove_9 (by decide) (by omega) (fun c9 => ?_) (fun c9 => ?_)
      ·
        refine j_vret hF hR dX6_remove_61 (by omega) (by omega) ?_
        exact absurd hex (fun ⟨j, j1, j2, j3⟩ => hN j j1 (by omega) j3)
      ·
        refine j_aload_n hF dX6_remove_12 rfl (j_iload_n hF dX6_remove_13 rfl (j_iload_n hF dX6_remove_14 rfl (j_callV hF (c_X6_stampAt hM.1 (by omega) (by omega)) ms_X6_stampAt mv_X6_stampAt lk_RX6_18 dX6_remove_15 hM.1.1 rfl rfl rfl (by simp [Value.category]) ⟨⟨(Nat.le_of_ble_eq_true rfl), (Nat.le_of_ble_eq_true rfl)⟩, by omega, by omega⟩ (fun v2 X2 hp2 hE2 => ?_))))
        obtain ⟨rfl, he2⟩ := hp2; obtain rfl := he2.symm
        have hq := hs (12 * w + i) (by omega) (by omega)
        refine j_iload_n hF dX6_remove_18 rfl (j_icmp_ne hF 55 dX6_remove_19 (by decide) (by omega) (fun c19 => ?_) (fun c19 => ?_))
        ·
          refine j_iinc hF dX6_remove_55 rfl (Nat.le_of_ble_eq_true rfl) rfl (j_goto hF 2 dX6_remove_58 (by decide) ?_)
          exact ih (i + 1) (by omega) (by omega) (BA.s hN c19)
        ·
          refine j_aload_n hF dX6_remove_22 rfl (j_get hF hM.1.1 fl_RX6_9 dX6_remove_23 rfl (j_iload_n hF dX6_remove_26 rfl (j_dup2 hF dX6_remove_27 rfl rfl (j_iald hF hM.1.2.1 dX6_remove_28 (by omega) (fun ra3 rb3 => ?_)))))
          refine j_iconst hF dX6_remove_29 (j_isub hF dX6_remove_30 (j_iast hF hM.1.2.1 dX6_remove_31 (by omega) (by omega) (j_nm (fun X4 eX4 => ?_))))
          have hM := hM.u_fz eX4
          refine j_aload_n hF dX6_remove_32 rfl (j_get hF hM.1.1 fl_RX6_15 dX6_remove_33 rfl (j_iload_n hF dX6_remove_36 rfl (j_bipush hF dX6_remove_37 (by decide) (j_imul hF dX6_remove_39 (j_iload_n hF dX6_remove_40 rfl ?_)))))
          refine j_iadd hF dX6_remove_41 (j_aload_n hF dX6_remove_42 rfl (j_iload_n hF dX6_remove_43 rfl (j_aload_n hF dX6_remove_44 rfl (j_get hF hM.1.1 fl_RX6_9 dX6_remove_45 rfl (j_iload_n hF dX6_remove_48 rfl ?_)))))
          refine j_iald hF hM.1.2.1 dX6_remove_49 (by omega) (fun ra5 rb5 => ?_)
          refine j_callV hF (c_X6_stampAt hM.1 (by omega) (by rw [fu_s]; omega)) ms_X6_stampAt mv_X6_stampAt lk_RX6_18 dX6_remove_50 hM.1.1 rfl rfl rfl (by simp [Value.category]) ⟨⟨(Nat.le_of_ble_eq_true rfl), (Nat.le_of_ble_eq_true rfl)⟩, by omega, by omega⟩ (fun v6 X6 hp6 hE6 => ?_)
          obtain ⟨rfl, he6⟩ := hp6; obtain rfl := he6.symm
          refine j_iast hF hM.1.2.2 dX6_remove_53 (by omega) (by first | (rw [fu_s] at *; exact hs (12 * w + (fz w - 1)) (by omega) (by omega)) | omega) (j_nm (fun X7 eX7 => ?_))
          have hM := hM.u_ft eX7
          refine j_vret hF hR dX6_remove_54 (by omega) (by omega) ?_
          rw [show w * 12 + i = 12 * w + i by omega, fu_s] at hM
          exact ⟨rfl, i, hi.1, by omega, c19, hM⟩
  exact LL 13 0 (by omega) (by omega) (BA.z _)

set_option maxRecDepth 100000 in
set_option maxHeartbeats 4000000 in
theorem c_X7_stampOf {X : Hp} {x t : Int} : Ct yX7_stampOf cX7_stampOf 2 (some .int) 0 0 [vi x, vi t] X 0 0 (fun rv X' => rv = some (vi (1000 * x + t)) ∧ X' = X) := by
  refine Ct.of (by decide +kernel) [some (vi x), some (vi t)] rfl (Nat.le_of_ble_eq_true rfl) (fun φ hF hR => ?_)
  refine j_sipush hF dX7_stampOf_0 (by decide) (j_iload_n hF dX7_stampOf_3 rfl (j_imul hF dX7_stampOf_4 (j_iload_n hF dX7_stampOf_5 rfl (j_iadd hF dX7_stampOf_6 (j_iret hF hR dX7_stampOf_7 (by omega) (by omega) ?_)))))
  exact ⟨rfl, rfl⟩

set_option maxRecDepth 100000 in
set_option maxHeartbeats 4000000 in
theorem c_X7_countersOf {X : Hp} {t : Int} (ht : 0 ≤ t ∧ t < 16000) : Ct yX7_countersOf cX7_countersOf 1 (some .int) 0 0 [vi t] X 0 0 (fun rv X' => rv = some (vi (t % 100)) ∧ X' = X) := by
  refine Ct.of (by decide +kernel) [some (vi t)] rfl (Nat.le_of_ble_eq_true rfl) (fun φ hF hR => ?_)
  refine j_iload_n hF dX7_countersOf_0 rfl (j_bipush hF dX7_countersOf_1 (by decide) (j_irem hF dX7_countersOf_3 (by omega) (j_iret hF hR dX7_countersOf_4 (by omega) (by omega) ?_)))
  exact ⟨rfl, rfl⟩

set_option maxRecDepth 100000 in
set_option maxHeartbeats 4000000 in
theorem c_X7_isWorker {X : Hp} {x : Int} (hx : -2147483648 ≤ x ∧ x ≤ 2147483647) : Ct yX7_isWorker cX7_isWorker 1 (some .boolean) 0 0 [vi x] X 0 0 (fun rv X' => rv = some (vi (bz (0 ≤ x ∧ x ≤ 1))) ∧ X' = X) := by
  refine Ct.of (by decide +kernel) [some (vi x)] rfl (Nat.le_of_ble_eq_true rfl) (fun φ hF hR => ?_)
  refine j_iload_n hF dX7_isWorker_0 rfl (j_if_lt hF 13 dX7_isWorker_1 (by decide) (by omega) (fun c1 => ?_) (fun c1 => ?_))
  ·
    refine j_iconst hF dX7_isWorker_13 (j_zret hF hR (Or.inl rfl) dX7_isWorker_14 (by omega) (by omega) ?_)
    exact ⟨bz_r0 (by omega), rfl⟩
  ·
    refine j_iload_n hF dX7_isWorker_4 rfl (j_iconst hF dX7_isWorker_5 (j_icmp_ge hF 13 dX7_isWorker_6 (by decide) (by omega) (fun c6 => ?_) (fun c6 => ?_)))
    ·
      refine j_iconst hF dX7_isWorker_13 (j_zret hF hR (Or.inl rfl) dX7_isWorker_14 (by omega) (by omega) ?_)
      exact ⟨bz_r0 (by omega), rfl⟩
    ·
      refine j_iconst hF dX7_isWorker_9 (j_goto hF 14 dX7_isWorker_10 (by decide) (j_zret hF hR (Or.inr rfl) dX7_isWorker_14 (by omega) (by omega) ?_))
      exact ⟨bz_r1 (by omega), rfl⟩

set_option maxRecDepth 100000 in
set_option maxHeartbeats 4000000 in
theorem c_X7_isFlag {X : Hp} {x : Int} (hx : -2147483648 ≤ x ∧ x ≤ 2147483647) : Ct yX7_isFlag cX7_isFlag 1 (some .boolean) 0 0 [vi x] X 0 0 (fun rv X' => rv = some (vi (bz (0 ≤ x ∧ x ≤ 1))) ∧ X' = X) := by
  refine Ct.of (by decide +kernel) [some (vi x)] rfl (Nat.le_of_ble_eq_true rfl) (fun φ hF hR => ?_)
  refine j_iload_n hF dX7_isFlag_0 rfl (j_if_eq hF 9 dX7_isFlag_1 (by decide) (by omega) (fun c1 => ?_) (fun c1 => ?_))
  ·
    refine j_iconst hF dX7_isFlag_9 (j_goto hF 14 dX7_isFlag_10 (by decide) (j_zret hF hR (Or.inr rfl) dX7_isFlag_14 (by omega) (by omega) ?_))
    exact ⟨bz_r1 (by omega), rfl⟩
  ·
    refine j_iload_n hF dX7_isFlag_4 rfl (j_iconst hF dX7_isFlag_5 (j_icmp_ne hF 13 dX7_isFlag_6 (by decide) (by omega) (fun c6 => ?_) (fun c6 => ?_)))
    ·
      refine j_iconst hF dX7_isFlag_13 (j_zret hF hR (Or.inl rfl) dX7_isFlag_14 (by omega) (by omega) ?_)
      exact ⟨bz_r0 (by omega), rfl⟩
    ·
      refine j_iconst hF dX7_isFlag_9 (j_goto hF 14 dX7_isFlag_10 (by decide) (j_zret hF hR (Or.inr rfl) dX7_isFlag_14 (by omega) (by omega) ?_))
      exact ⟨bz_r1 (by omega), rfl⟩

set_option maxRecDepth 100000 in
set_option maxHeartbeats 4000000 in
theorem c_X7_mix {X : Hp} {h : Int64} {v : Int} : Ct yX7_mix cX7_mix 3 (some .long) 0 0 [.long h, vi v] X 0 0 (fun rv X' => rv = some (.long (mx h v)) ∧ X' = X) := by
  refine Ct.of (by decide +kernel) [some (.long h), none, some (vi v)] rfl (Nat.le_of_ble_eq_true rfl) (fun φ hF hR => ?_)
  refine j_ldc2 hF kc_RX7_268 dX7_mix_0 (j_lload_n hF dX7_mix_3 rfl (j_lmul hF dX7_mix_4 (j_iload_n hF dX7_mix_5 rfl (j_i2l hF dX7_mix_6 (j_ladd hF dX7_mix_7 ?_)))))
  refine j_lret hF hR dX7_mix_8 (by omega) (by omega) ?_
  exact ⟨rfl, rfl⟩

set_option maxRecDepth 100000 in
set_option maxHeartbeats 4000000 in
theorem c_J9_min_7cf53 {X : Hp} {x y : Int} (hx : -2147483648 ≤ x ∧ x ≤ 2147483647) (hy : -2147483648 ≤ y ∧ y ≤ 2147483647) : Ct yJ9_min_7cf53 cJ9_min_7cf53 2 (some .int) 0 0 [vi x, vi y] X 0 0 (fun rv X' => rv = some (vi (if x ≤ y then x else y)) ∧ X' = X) := by
  refine Ct.ofF (by decide +kernel) [some (vi x), some (vi y)] rfl (Nat.le_of_ble_eq_true rfl) (fun φ hF hR => ?_)
  refine j_iload_n hF dJ9_min_7cf53_0 rfl (j_iload_n hF dJ9_min_7cf53_1 rfl (j_icmp_gt hF 9 dJ9_min_7cf53_2 (by decide) (by omega) (fun c2 => ?_) (fun c2 => ?_)))
  ·
    refine j_iload_n hF dJ9_min_7cf53_9 rfl (j_iret hF hR dJ9_min_7cf53_10 (by omega) (by omega) ?_)
    exact ⟨sv_eq (by split <;> omega), rfl⟩
  ·
    refine j_iload_n hF dJ9_min_7cf53_5 rfl (j_goto hF 10 dJ9_min_7cf53_6 (by decide) (j_iret hF hR dJ9_min_7cf53_10 (by omega) (by omega) ?_))
    exact ⟨sv_eq (by split <;> omega), rfl⟩

set_option maxRecDepth 100000 in
set_option maxHeartbeats 4000000 in
theorem c_J9_max_7cf53 {X : Hp} {x y : Int} (hx : -2147483648 ≤ x ∧ x ≤ 2147483647) (hy : -2147483648 ≤ y ∧ y ≤ 2147483647) : Ct yJ9_max_7cf53 cJ9_max_7cf53 2 (some .int) 0 0 [vi x, vi y] X 0 0 (fun rv X' => rv = some (vi (if y ≤ x then x else y)) ∧ X' = X) := by
  refine Ct.ofF (by decide +kernel) [some (vi x), some (vi y)] rfl (Nat.le_of_ble_eq_true rfl) (fun φ hF hR => ?_)
  refine j_iload_n hF dJ9_max_7cf53_0 rfl (j_iload_n hF dJ9_max_7cf53_1 rfl (j_icmp_lt hF 9 dJ9_max_7cf53_2 (by decide) (by omega) (fun c2 => ?_) (fun c2 => ?_)))
  ·
    refine j_iload_n hF dJ9_max_7cf53_9 rfl (j_iret hF hR dJ9_max_7cf53_10 (by omega) (by omega) ?_)
    exact ⟨sv_eq (by split <;> omega), rfl⟩
  ·
    refine j_iload_n hF dJ9_max_7cf53_5 rfl (j_goto hF 10 dJ9_max_7cf53_6 (by decide) (j_iret hF hR dJ9_max_7cf53_10 (by omega) (by omega) ?_))
    exact ⟨sv_eq (by split <;> omega), rfl⟩

set_option maxRecDepth 100000 in
set_option maxHeartbeats 4000000 in
theorem c_J7_rangeCheck_23922 {X : Hp} {n x y : Int} (h1 : 0 ≤ x ∧ x ≤ y) (h2 : y ≤ n ∧ n ≤ 2147483647) : Ct yJ7_rangeCheck_23922 cJ7_rangeCheck_23922 3 none 0 0 [vi n, vi x, vi y] X 0 0 (fun rv X' => rv = none ∧ X' = X) := by
  refine Ct.ofF (by decide +kernel) [some (vi n), some (vi x), some (vi y)] rfl (Nat.le_of_ble_eq_true rfl) (fun φ hF hR => ?_)
  refine j_iload_n hF dJ7_rangeCheck_23922_0 rfl (j_iload_n hF dJ7_rangeCheck_23922_1 rfl (j_icmp_le hF 46 dJ7_rangeCheck_23922_2 (by decide) (by omega) (fun c2 => ?_) (fun c2 => absurd c2 (by omega))))
  refine j_iload_n hF dJ7_rangeCheck_23922_46 rfl (j_if_ge hF 59 dJ7_rangeCheck_23922_47 (by decide) (by omega) (fun c47 => ?_) (fun c47 => absurd c47 (by omega)))
  refine j_iload_n hF dJ7_rangeCheck_23922_59 rfl (j_iload_n hF dJ7_rangeCheck_23922_60 rfl (j_icmp_le hF 73 dJ7_rangeCheck_23922_61 (by decide) (by omega) (fun c61 => ?_) (fun c61 => absurd c61 (by omega))))
  refine j_vret hF hR dJ7_rangeCheck_23922_73 (by omega) (by omega) ?_
  exact ⟨rfl, rfl⟩

set_option maxRecDepth 100000 in
set_option maxHeartbeats 4000000 in
theorem c_J7_fill_53178 {X : Hp} {a lb n0 : Nat} {f : Int → Int} {v : Int} (ha : X a = some (lb, ia 0 n0 f)) (hv : -2147483648 ≤ v ∧ v ≤ 2147483647) (hn : (n0 : Int) ≤ 1000000) : Ct yJ7_fill_53178 cJ7_fill_53178 4 none 0 0 [.ref a, vi v] X 0 0 (fun rv X' => rv = none ∧ ∃ g, X' a = some (lb, ia 0 n0 g) ∧ (∀ j, 0 ≤ j → j < (n0 : Int) → g j = v) ∧ (∀ j, j < 0 ∨ (n0 : Int) ≤ j → g j = f j) ∧ FB lb (lb + 1) X X') := by
  refine Ct.ofF (by decide +kernel) [some (.ref a), some (vi v), none, none] rfl (Nat.le_of_ble_eq_true rfl) (fun φ hF hR => ?_)
  refine j_iconst hF dJ7_fill_53178_0 (j_istore_n hF dJ7_fill_53178_1 (Nat.le_of_ble_eq_true rfl) rfl (j_aload_n hF dJ7_fill_53178_2 rfl (j_ilen hF (by decide) ha dJ7_fill_53178_3 (fun rl1 => ?_))))
  refine j_istore_n hF dJ7_fill_53178_4 (Nat.le_of_ble_eq_true rfl) rfl ?_
  have LL : ∀ (n : Nat) (i : Int) (g : Int → Int) (X1 : Hp), ((n0 : Int) - i).toNat < n → 0 ≤ i ∧ i ≤ (n0 : Int) → X1 a = some (lb, ia 0 n0 g) → FB lb (lb + 1) X X1 → (∀ j, 0 ≤ j → j < i → g j = v) → (∀ j, j < 0 ∨ (n0 : Int) ≤ j → g j = f j) → Jd φ X1 0 0 5 [some (.ref a), some (vi v), some (vi i), some (vi (n0 : Int))] [] := by
    intro n
    induction n with
    | zero => intro i g X1 hfu; exact absurd hfu (by omega)
    | succ n ih =>
      intro i g X1 hfu hi ha hk hg1 hg2
      refine j_iload_n hF dJ7_fill_53178_5 rfl (j_iload_n hF dJ7_fill_53178_6 rfl (j_icmp_ge hF 20 dJ7_fill_53178_7 (by decide) (by omega) (fun c7 => ?_) (fun c7 => ?_)))
      ·
        refine j_vret hF hR dJ7_fill_53178_20 (by omega) (by omega) ?_
        exact ⟨rfl, g, ha, fun j j1 j2 => hg1 j j1 (by omega), hg2, hk⟩
      ·
        refine j_aload_n hF dJ7_fill_53178_10 rfl (j_iload_n hF dJ7_fill_53178_11 rfl (j_iload_n hF dJ7_fill_53178_12 rfl (j_iast hF ha dJ7_fill_53178_13 (by omega) (by omega) (j_nm (fun X1 eX1 => ?_)))))
        have hk := FB.trans hk (FB.up eX1 ha (by omega) (by omega))
        have ha := ups eX1
        refine j_iinc hF dJ7_fill_53178_14 rfl (Nat.le_of_ble_eq_true rfl) rfl (j_goto hF 5 dJ7_fill_53178_17 (by decide) ?_)
        refine ih (i + 1) _ _ (by omega) (by omega) ha hk (fun j j1 j2 => ?_) (fun j j1 => ?_)
        · by_cases e : j = i
          · rw [e, fu_s]
          · rw [fu_n e]; exact hg1 j j1 (by omega)
        · rw [fu_n (by omega)]; exact hg2 j (by omega)
  exact LL (((n0 : Int)).toNat + 1) 0 f X (by omega) (by omega) ha (FB.refl _ _ X) (fun j j1 j2 => by omega) (fun j _ => rfl)

set_option maxRecDepth 100000 in
set_option maxHeartbeats 4000000 in
theorem c_J7_fill_fda19 {X : Hp} {a lb n0 : Nat} {f : Int → Int} {v : Int} (ha : X a = some (lb, ia 0 n0 f)) (hv : -2147483648 ≤ v ∧ v ≤ 2147483647) {x y : Int} (hn : (n0 : Int) ≤ 1000000) (h1 : 0 ≤ x ∧ x ≤ y) (h2 : y ≤ n0) : Ct yJ7_fill_fda19 cJ7_fill_fda19 5 none 1 22 [.ref a, vi x, vi y, vi v] X 0 0 (fun rv X' => rv = none ∧ ∃ g, X' a = some (lb, ia 0 n0 g) ∧ (∀ j, x ≤ j → j < y → g j = v) ∧ (∀ j, j < x ∨ y ≤ j → g j = f j) ∧ FB lb (lb + 1) X X') := by
  refine Ct.ofF (by decide +kernel) [some (.ref a), some (vi x), some (vi y), some (vi v), none] rfl (Nat.le_of_ble_eq_true rfl) (fun φ hF hR => ?_)
  refine j_aload_n hF dJ7_fill_fda19_0 rfl (j_ilen hF (by decide) ha dJ7_fill_fda19_1 (fun rl1 => ?_))
  refine j_iload_n hF dJ7_fill_fda19_2 rfl (j_iload_n hF dJ7_fill_fda19_3 rfl (j_callS hF (c_J7_rangeCheck_23922 (by omega) (by omega)) ms_J7_rangeCheck_23922 mt_J7_rangeCheck_23922 lk_RJ7_13 dJ7_fill_fda19_4 rfl rfl rfl (by simp [Value.category]) ⟨⟨(Nat.le_of_ble_eq_true rfl), (Nat.le_of_ble_eq_true rfl)⟩, by omega, by omega⟩ (fun v2 X2 hp2 hE2 => ?_)))
  obtain ⟨rfl, he2⟩ := hp2; obtain rfl := he2.symm
  refine j_iload_n hF dJ7_fill_fda19_7 rfl (j_istore hF dJ7_fill_fda19_8 (Nat.le_of_ble_eq_true rfl) rfl ?_)
  have LL : ∀ (n : Nat) (i : Int) (g : Int → Int) (X1 : Hp), (y - i).toNat < n → x ≤ i ∧ i ≤ y → X1 a = some (lb, ia 0 n0 g) → FB lb (lb + 1) X X1 → (∀ j, x ≤ j → j < i → g j = v) → (∀ j, j < x ∨ y ≤ j → g j = f j) → Jd φ X1 0 0 10 [some (.ref a), some (vi x), some (vi y), some (vi v), some (vi i)] [] := by
    intro n
    induction n with
    | zero => intro i g X1 hfu; exact absurd hfu (by omega)
    | succ n ih =>
      intro i g X1 hfu hi ha hk hg1 hg2
      refine j_iload hF dJ7_fill_fda19_10 rfl (j_iload_n hF dJ7_fill_fda19_12 rfl (j_icmp_ge hF 27 dJ7_fill_fda19_13 (by decide) (by omega) (fun c13 => ?_) (fun c13 => ?_)))
      ·
        refine j_vret hF hR dJ7_fill_fda19_27 (by omega) (by omega) ?_
        exact ⟨rfl, g, ha, fun j j1 j2 => hg1 j j1 (by omega), hg2, hk⟩
      ·
        refine j_aload_n hF dJ7_fill_fda19_16 rfl (j_iload hF dJ7_fill_fda19_17 rfl (j_iload_n hF dJ7_fill_fda19_19 rfl (j_iast hF ha dJ7_fill_fda19_20 (by omega) (by omega) (j_nm (fun X1 eX1 => ?_)))))
        have hk := FB.trans hk (FB.up eX1 ha (by omega) (by omega))
        have ha := ups eX1
        refine j_iinc hF dJ7_fill_fda19_21 rfl (Nat.le_of_ble_eq_true rfl) rfl (j_goto hF 10 dJ7_fill_fda19_24 (by decide) ?_)
        refine ih (i + 1) _ _ (by omega) (by omega) ha hk (fun j j1 j2 => ?_) (fun j j1 => ?_)
        · by_cases e : j = i
          · rw [e, fu_s]
          · rw [fu_n e]; exact hg1 j j1 (by omega)
        · rw [fu_n (by omega)]; exact hg2 j (by omega)
  exact LL ((y - x).toNat + 1) x f X (by omega) (by omega) ha (FB.refl _ _ X) (fun j j1 j2 => by omega) (fun j _ => rfl)

set_option maxRecDepth 100000 in
set_option maxHeartbeats 4000000 in
theorem c_J7_copyOf_59c91 {X : Hp} (lb : Nat) {a lb0 n m_ : Nat} {f : Int → Int} (ha : X a = some (lb0, ia 0 n f)) (hm : n < m_ ∧ m_ ≤ 1000000) : Ct yJ7_copyOf_59c91 cJ7_copyOf_59c91 3 (some (.array .int)) 1 30 [.ref a, vi (m_ : Int)] X 1 m_ (fun rv X' => ∃ q, rv = some (.ref q) ∧ X q = none ∧ X' q = some (lb, ia 0 m_ (fc f (fun _ => 0) 0 0 n)) ∧ FB 0 0 X X') := by
  refine Ct.ofF (by decide +kernel) [some (.ref a), some (vi (m_ : Int)), none] rfl (Nat.le_of_ble_eq_true rfl) (fun φ hF hR => ?_)
  refine j_iload_n hF dJ7_copyOf_59c91_0 rfl (j_aload_n hF dJ7_copyOf_59c91_1 rfl (j_ilen hF (by decide) ha dJ7_copyOf_59c91_2 (fun rl1 => ?_)))
  refine j_icmp_ne hF 14 dJ7_copyOf_59c91_3 (by decide) (by omega) (fun c3 => ?_) (fun c3 => absurd c3 (by omega))
  refine j_iload_n hF dJ7_copyOf_59c91_14 rfl (j_newi hF (lb) (m_) kl_ac dJ7_copyOf_59c91_15 (by omega) (by omega) (by omega) (fun a_q hq2 => j_nm (fun X2 eX2 => ?_)) (by rfl))
  have hk := keepN eX2 hq2
  have ha := hk _ _ _ ha (Or.inr (Nat.zero_le _))
  have hb_ := ups eX2
  refine j_astore_n hF dJ7_copyOf_59c91_17 (Nat.le_of_ble_eq_true rfl) rfl (j_aload_n hF dJ7_copyOf_59c91_18 rfl (j_iconst hF dJ7_copyOf_59c91_19 (j_aload_n hF dJ7_copyOf_59c91_20 rfl (j_iconst hF dJ7_copyOf_59c91_21 (j_aload_n hF dJ7_copyOf_59c91_22 rfl ?_)))))
  refine j_ilen hF (by decide) ha dJ7_copyOf_59c91_23 (fun rl3 => ?_)
  refine j_iload_n hF dJ7_copyOf_59c91_24 rfl (j_callS hF (c_J9_min_7cf53 (by omega) (by omega)) ms_J9_min_7cf53 mt_J9_min_7cf53 lk_RJ7_304 dJ7_copyOf_59c91_25 rfl rfl rfl (by simp [Value.category]) ⟨⟨(Nat.le_of_ble_eq_true rfl), (Nat.le_of_ble_eq_true rfl)⟩, by omega, by omega⟩ (fun v4 X4 hp4 hE4 => ?_))
  obtain ⟨rfl, he4⟩ := hp4; obtain rfl := he4.symm
  refine j_copy hF lk_RJ7_150 ac_nat ac_sta ac_ini ha hb_ dJ7_copyOf_59c91_28 (by omega) rfl (by decide) ⟨(Nat.le_of_ble_eq_true rfl), (Nat.le_of_ble_eq_true rfl)⟩ (j_nm (fun X5 eX5 => ?_))
  have hk := keepN2 eX2 hq2 eX5
  have hb_ := ups eX5
  refine j_aload_n hF dJ7_copyOf_59c91_31 rfl (j_aret hF hR dJ7_copyOf_59c91_32 (by omega) (by omega) ?_)
  rw [if_pos (by omega)] at hb_
  exact ⟨a_q, rfl, hq2, hb_, hk⟩
