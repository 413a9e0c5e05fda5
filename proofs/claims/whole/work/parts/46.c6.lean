theorem VI.none {n : Nat} {sz x : Int} {fs fv f : Int → Int} (h : VI n sz fs fv f) (hx : 0 ≤ x ∧ x < 16000) (hi : ∀ i, 0 ≤ i → i < sz → ¬ fs i = x) : f x = 0 := Classical.byContradiction fun q => by
  obtain ⟨i, i1, i2, i3⟩ := h.2.2.2 x hx.1 hx.2 q
  exact hi i i1 i2 i3
theorem VI.cong {n n' : Nat} {sz : Int} {fs fv f fs' fv' : Int → Int} (h : VI n sz fs fv f) (hn : sz ≤ n') (e : ∀ i, 0 ≤ i → i < sz → fs' i = fs i ∧ fv' i = fv i) : VI n' sz fs' fv' f := by
  obtain ⟨h0, h1, h2, h3⟩ := h
  refine ⟨⟨h0.1, hn⟩, fun i i1 i2 => ?_, fun i j i1 i2 i3 => ?_, fun x x1 x2 x3 => ?_⟩
  · rw [(e i i1 i2).1, (e i i1 i2).2]; exact h1 i i1 i2
  · rw [(e i i1 (by omega)).1, (e j (by omega) i3).1]; exact h2 i j i1 i2 i3
  · obtain ⟨i, i1, i2, i3⟩ := h3 x x1 x2 x3
    exact ⟨i, i1, i2, by rw [(e i i1 i2).1]; exact i3⟩
theorem VI.ins {n n' : Nat} {sz x row val : Int} {fs fv f fs' fv' : Int → Int} (h : VI n sz fs fv f) (hx : 0 ≤ x ∧ x < 16000) (hf : f x = 0) (hv : ¬ val = 0) (hr : 0 ≤ row ∧ row ≤ sz) (hn : sz + 1 ≤ n') (g1 : ∀ i, 0 ≤ i → i < row → fs i < x) (g2 : ∀ i, row ≤ i → i < sz → x < fs i)
    (e1 : ∀ i, 0 ≤ i → i < row → fs' i = fs i ∧ fv' i = fv i) (e2 : fs' row = x ∧ fv' row = val) (e3 : ∀ i, row < i → i ≤ sz → fs' i = fs (i - 1) ∧ fv' i = fv (i - 1)) : VI n' (sz + 1) fs' fv' (fu f x val) := by
  obtain ⟨h0, h1, h2, h3⟩ := h
  have cases3 : ∀ i, 0 ≤ i → i < sz + 1 → (i < row ∧ fs' i = fs i ∧ fv' i = fv i) ∨ (i = row ∧ fs' i = x ∧ fv' i = val) ∨ (row < i ∧ fs' i = fs (i - 1) ∧ fv' i = fv (i - 1)) := fun i i1 i2 => by
    by_cases a : i < row
    · exact Or.inl ⟨a, e1 i i1 a⟩
    · by_cases b : i = row
      · exact Or.inr (Or.inl ⟨b, by rw [b]; exact e2⟩)
      · exact Or.inr (Or.inr ⟨by omega, e3 i (by omega) (by omega)⟩)
  refine ⟨⟨by omega, hn⟩, fun i i1 i2 => ?_, fun i j i1 i2 i3 => ?_, fun y y1 y2 y3 => ?_⟩
  · rcases cases3 i i1 i2 with ⟨a, b, c⟩ | ⟨a, b, c⟩ | ⟨a, b, c⟩
    · have := g1 i i1 a
      rw [b, c, fu_n (by omega)]; exact h1 i i1 (by omega)
    · rw [b, c, fu_s]; exact ⟨hx, rfl, hv⟩
    · have := g2 (i - 1) (by omega) (by omega)
      rw [b, c, fu_n (by omega)]; exact h1 (i - 1) (by omega) (by omega)
  · rcases cases3 i i1 (by omega) with ⟨a, b, c⟩ | ⟨a, b, c⟩ | ⟨a, b, c⟩ <;> rcases cases3 j (by omega) i3 with ⟨a', b', c'⟩ | ⟨a', b', c'⟩ | ⟨a', b', c'⟩ <;> rw [b, b']
    · exact h2 i j i1 i2 (by omega)
    · exact g1 i i1 a
    · have q1 := g1 i i1 a; have q2 := g2 (j - 1) (by omega) (by omega); omega
    · omega
    · omega
    · exact g2 (j - 1) (by omega) (by omega)
    · omega
    · omega
    · exact h2 (i - 1) (j - 1) (by omega) (by omega) (by omega)
  · by_cases q : y = x
    · exact ⟨row, hr.1, by omega, by rw [e2.1, q]⟩
    · rw [fu_n q] at y3
      obtain ⟨i, i1, i2, i3⟩ := h3 y y1 y2 y3
      by_cases a : i < row
      · exact ⟨i, i1, by omega, by rw [(e1 i i1 a).1, i3]⟩
      · exact ⟨i + 1, by omega, by omega, by rw [(e3 (i + 1) (by omega) (by omega)).1, show i + 1 - 1 = i by omega, i3]⟩
theorem VI.rem {n : Nat} {sz x row : Int} {fs fv f fs' fv' : Int → Int} (h : VI n sz fs fv f) (hr : 0 ≤ row ∧ row < sz) (hx : fs row = x)
    (e1 : ∀ i, 0 ≤ i → i < row → fs' i = fs i ∧ fv' i = fv i) (e3 : ∀ i, row ≤ i → i < sz - 1 → fs' i = fs (i + 1) ∧ fv' i = fv (i + 1)) : VI n (sz - 1) fs' fv' (fu f x 0) := by
  obtain ⟨h0, h1, h2, h3⟩ := h
  have cases2 : ∀ i, 0 ≤ i → i < sz - 1 → (i < row ∧ fs' i = fs i ∧ fv' i = fv i) ∨ (row ≤ i ∧ fs' i = fs (i + 1) ∧ fv' i = fv (i + 1)) := fun i i1 i2 => by
    by_cases a : i < row
    · exact Or.inl ⟨a, e1 i i1 a⟩
    · exact Or.inr ⟨by omega, e3 i (by omega) (by omega)⟩
  refine ⟨⟨by omega, by omega⟩, fun i i1 i2 => ?_, fun i j i1 i2 i3 => ?_, fun y y1 y2 y3 => ?_⟩
  · rcases cases2 i i1 i2 with ⟨a, b, c⟩ | ⟨a, b, c⟩
    · have := h2 i row i1 a hr.2
      rw [b, c, fu_n (by omega)]; exact h1 i i1 (by omega)
    · have := h2 row (i + 1) hr.1 (by omega) (by omega)
      rw [b, c, fu_n (by omega)]; exact h1 (i + 1) (by omega) (by omega)
  · rcases cases2 i i1 (by omega) with ⟨a, b, c⟩ | ⟨a, b, c⟩ <;> rcases cases2 j (by omega) i3 with ⟨a', b', c'⟩ | ⟨a', b', c'⟩ <;> rw [b, b']
    · exact h2 i j i1 i2 (by omega)
    · exact h2 i (j + 1) i1 (by omega) (by omega)
    · omega
    · exact h2 (i + 1) (j + 1) (by omega) (by omega) (by omega)
  · by_cases q : y = x
    · rw [q, fu_s] at y3; exact absurd rfl y3
    · rw [fu_n q] at y3
      obtain ⟨i, i1, i2, i3⟩ := h3 y y1 y2 y3
      have hne : ¬ i = row := fun e => q (by rw [← i3, e, hx])
      by_cases a : i < row
      · exact ⟨i, i1, by omega, by rw [(e1 i i1 a).1, i3]⟩
      · exact ⟨i - 1, by omega, by omega, by rw [(e3 (i - 1) (by omega) (by omega)).1, show i - 1 + 1 = i by omega, i3]⟩
theorem VI.set {n : Nat} {sz x row val : Int} {fs fv f : Int → Int} (h : VI n sz fs fv f) (hr : 0 ≤ row ∧ row < sz) (hx : fs row = x) (hv : ¬ val = 0) : VI n sz fs (fu fv row val) (fu f x val) := by
  obtain ⟨h0, h1, h2, h3⟩ := h
  refine ⟨h0, fun i i1 i2 => ?_, h2, fun y y1 y2 y3 => ?_⟩
  · by_cases q : i = row
    · rw [q, hx, fu_s, fu_s]; refine ⟨?_, rfl, hv⟩; rw [← hx]; exact (h1 row hr.1 hr.2).1
    · have hne : ¬ fs i = x := fun e => by
        by_cases a : i < row
        · have := h2 i row i1 a hr.2; omega
        · have := h2 row i hr.1 (by omega) i2; omega
      rw [fu_n q, fu_n hne]; exact h1 i i1 i2
  · by_cases q : y = x
    · exact ⟨row, hr.1, hr.2, by rw [hx, q]⟩
    · rw [fu_n q] at y3; exact h3 y y1 y2 y3
theorem VI.gap {n : Nat} {sz x row : Int} {fs fv f : Int → Int} (h : VI n sz fs fv f) (hx : 0 ≤ x ∧ x < 16000) (hr : 0 ≤ row ∧ row ≤ sz) (hr1 : ∀ i, 0 ≤ i → i < row → fs i < x) (hr2 : row < sz → x ≤ fs row) (hne : row < sz → ¬ fs row = x) : (∀ i, row ≤ i → i < sz → x < fs i) ∧ f x = 0 := by
  have g : ∀ i, row ≤ i → i < sz → x < fs i := by
    intro i i1 i2
    have a2 := hr2 (by omega)
    have a3 := hne (by omega)
    by_cases q : i = row
    · rw [q]; omega
    · have a1 := h.2.2.1 row i hr.1 (by omega) i2
      omega
  refine ⟨g, h.none hx ?_⟩
  intro i i1 i2 e
  by_cases q : i < row
  · have := hr1 i i1 q; omega
  · have := g i (by omega) i2; omega
noncomputable def vc (n : Nat) (sz : Int) (f : Int → Int) (x : Int) : Nat := if f x = 0 then mr n (sz + 1) else n
def vz (sz : Int) (f : Int → Int) (x c : Int) : Int := if f x = 0 then sz + 1 else if f x + c = 0 then sz - 1 else sz
theorem vc_ge (n : Nat) (sz : Int) (f : Int → Int) (x : Int) : n ≤ vc n sz f x := by
  unfold vc; split
  · exact (mr_ge _ _).1
  · exact Nat.le_refl _
set_option maxRecDepth 100000 in
set_option maxHeartbeats 4000000 in
theorem c_X4_insert {X : Hp} {b : Nat} {v s c k : Nat} {n : Nat} {sz : Int} {fs fv fk : Int → Int} (hM : VP X b v s c k n sz fs fv fk) {row x y : Int} {n' : Nat} (hn' : n' = mr n (sz + 1)) (hr : 0 ≤ row ∧ row ≤ sz) (hz : sz ≤ n ∧ sz ≤ 16000) (hn : 16 ≤ n ∧ n ≤ 32002) (hx : 0 ≤ x ∧ x < 16000) (hy : -2147483648 ≤ y ∧ y ≤ 2147483647) : Ct yX4_insert cX4_insert 4 none 3 74 [.ref v, vi row, vi x, vi y] X (n' - n) (6 * (n' - n)) (fun rv X' => rv = none ∧ ∃ s' c' k' fs' fv' fk', VPG X X' b v s' c' k' n' (sz + 1) fs' fv' fk' ∧ (∀ j, 0 ≤ j → j < row → fs' j = fs j ∧ fv' j = fv j) ∧ (fs' row = x ∧ fv' row = y) ∧ (∀ j, row < j → j ≤ sz → fs' j = fs (j - 1) ∧ fv' j = fv (j - 1))) := by
  refine Ct.of (by decide +kernel) [some (.ref v), some (vi row), some (vi x), some (vi y)] rfl (Nat.le_of_ble_eq_true rfl) (fun φ hF hR => ?_)
  have hM := hM.gg
  have hm2 := mr_ge n (sz + 1)
  rw [← hn'] at hm2
  refine j_aload_n hF dX4_insert_0 rfl (j_aload_n hF dX4_insert_1 rfl (j_get hF hM.1.1 fl_RX4_28 dX4_insert_2 rfl (j_iconst hF dX4_insert_5 (j_iadd hF dX4_insert_6 (j_callV hF (c_X4_makeRoom hM.1 hn' (by omega) (by omega)) ms_X4_makeRoom mv_X4_makeRoom lk_RX4_40 dX4_insert_7 hM.1.1 rfl rfl rfl (by simp [Value.category]) ⟨⟨(Nat.le_of_ble_eq_true rfl), (Nat.le_of_ble_eq_true rfl)⟩, by omega, by omega⟩ (fun v1 X1 hp1 hE1 => ?_))))))
  obtain ⟨rfl, s1, c1, k1, fs1, fv1, fk1, hM1, hq1⟩ := hp1
  have hM := hM.tr hM1
  refine j_aload_n hF dX4_insert_10 rfl (j_get hF hM.1.1 fl_RX4_11 dX4_insert_11 rfl (j_iload_n hF dX4_insert_14 rfl (j_aload_n hF dX4_insert_15 rfl (j_get hF hM.1.1 fl_RX4_11 dX4_insert_16 rfl (j_iload_n hF dX4_insert_19 rfl ?_)))))
  refine j_iconst hF dX4_insert_20 (j_iadd hF dX4_insert_21 (j_aload_n hF dX4_insert_22 rfl (j_get hF hM.1.1 fl_RX4_28 dX4_insert_23 rfl (j_iload_n hF dX4_insert_26 rfl (j_isub hF dX4_insert_27 ?_)))))
  refine j_copy hF lk_RX4_43 ac_nat ac_sta ac_ini hM.1.2.1 hM.1.2.1 dX4_insert_28 (by omega) rfl (by decide) ⟨(Nat.le_of_ble_eq_true rfl), (Nat.le_of_ble_eq_true rfl)⟩ (j_nm (fun X2 eX2 => ?_))
  have hM := hM.u_fs eX2
  refine j_aload_n hF dX4_insert_31 rfl (j_get hF hM.1.1 fl_RX4_15 dX4_insert_32 rfl (j_iload_n hF dX4_insert_35 rfl (j_aload_n hF dX4_insert_36 rfl (j_get hF hM.1.1 fl_RX4_15 dX4_insert_37 rfl (j_iload_n hF dX4_insert_40 rfl ?_)))))
  refine j_iconst hF dX4_insert_41 (j_iadd hF dX4_insert_42 (j_aload_n hF dX4_insert_43 rfl (j_get hF hM.1.1 fl_RX4_28 dX4_insert_44 rfl (j_iload_n hF dX4_insert_47 rfl (j_isub hF dX4_insert_48 ?_)))))
  refine j_copy hF lk_RX4_43 ac_nat ac_sta ac_ini hM.1.2.2.1 hM.1.2.2.1 dX4_insert_49 (by omega) rfl (by decide) ⟨(Nat.le_of_ble_eq_true rfl), (Nat.le_of_ble_eq_true rfl)⟩ (j_nm (fun X3 eX3 => ?_))
  have hM := hM.u_fv eX3
  refine j_aload_n hF dX4_insert_52 rfl (j_get hF hM.1.1 fl_RX4_11 dX4_insert_53 rfl (j_iload_n hF dX4_insert_56 rfl (j_iload_n hF dX4_insert_57 rfl (j_iast hF hM.1.2.1 dX4_insert_58 (by omega) (by omega) (j_nm (fun X4 eX4 => ?_))))))
  have hM := hM.u_fs eX4
  refine j_aload_n hF dX4_insert_59 rfl (j_get hF hM.1.1 fl_RX4_15 dX4_insert_60 rfl (j_iload_n hF dX4_insert_63 rfl (j_iload_n hF dX4_insert_64 rfl (j_iast hF hM.1.2.2.1 dX4_insert_65 (by omega) (by omega) (j_nm (fun X5 eX5 => ?_))))))
  have hM := hM.u_fv eX5
  refine j_aload_n hF dX4_insert_66 rfl (j_dup hF dX4_insert_67 rfl (j_get hF hM.1.1 fl_RX4_28 dX4_insert_68 rfl (j_iconst hF dX4_insert_71 (j_iadd hF dX4_insert_72 (j_put hF hM.1.1 fl_RX4_28 dX4_insert_73 rfl rfl (Nat.le_of_ble_eq_true rfl) (j_nm (fun X6 eX6 => ?_)))))))
  have hM := hM.u_sz eX6
  refine j_vret hF hR dX4_insert_76 (by omega) (by omega) ?_
  refine ⟨rfl, _, _, _, _, _, _, hM, fun j j1 j2 => ?_, ⟨fu_s, fu_s⟩, fun j j1 j2 => ?_⟩
  · have q := hq1 j j1 (by omega)
    rw [fu_n (by omega), fu_n (by omega), fcO (by omega), fcO (by omega)]
    exact q
  · have q := hq1 (j - 1) (by omega) (by omega)
    rw [fu_n (by omega), fu_n (by omega), fcI (by omega) (by omega), fcI (by omega) (by omega), show row + (j - (row + 1)) = j - 1 by omega]
    exact q

set_option maxRecDepth 100000 in
set_option maxHeartbeats 4000000 in
theorem c_X4_remove {X : Hp} {b : Nat} {v s c k : Nat} {n : Nat} {sz : Int} {fs fv fk : Int → Int} (hM : VP X b v s c k n sz fs fv fk) {row : Int} (hr : 0 ≤ row ∧ row < sz) (hz : sz ≤ n ∧ sz ≤ 16000) (hn : 16 ≤ n ∧ n ≤ 32002) : Ct yX4_remove cX4_remove 2 none 1 30 [.ref v, vi row] X 0 0 (fun rv X' => rv = none ∧ ∃ s' c' k' fs' fv' fk', VPG X X' b v s' c' k' n (sz - 1) fs' fv' fk' ∧ (∀ j, 0 ≤ j → j < row → fs' j = fs j ∧ fv' j = fv j) ∧ (∀ j, row ≤ j → j < sz - 1 → fs' j = fs (j + 1) ∧ fv' j = fv (j + 1))) := by
  refine Ct.of (by decide +kernel) [some (.ref v), some (vi row)] rfl (Nat.le_of_ble_eq_true rfl) (fun φ hF hR => ?_)
  have hM := hM.gg
  refine j_aload_n hF dX4_remove_0 rfl (j_dup hF dX4_remove_1 rfl (j_get hF hM.1.1 fl_RX4_28 dX4_remove_2 rfl (j_iconst hF dX4_remove_5 (j_isub hF dX4_remove_6 (j_put hF hM.1.1 fl_RX4_28 dX4_remove_7 rfl rfl (Nat.le_of_ble_eq_true rfl) (j_nm (fun X1 eX1 => ?_)))))))
  have hM := hM.u_sz eX1
  refine j_aload_n hF dX4_remove_10 rfl (j_get hF hM.1.1 fl_RX4_11 dX4_remove_11 rfl (j_iload_n hF dX4_remove_14 rfl (j_iconst hF dX4_remove_15 (j_iadd hF dX4_remove_16 (j_aload_n hF dX4_remove_17 rfl ?_)))))
  refine j_get hF hM.1.1 fl_RX4_11 dX4_remove_18 rfl (j_iload_n hF dX4_remove_21 rfl (j_aload_n hF dX4_remove_22 rfl (j_get hF hM.1.1 fl_RX4_28 dX4_remove_23 rfl (j_iload_n hF dX4_remove_26 rfl (j_isub hF dX4_remove_27 ?_)))))
  refine j_copy hF lk_RX4_43 ac_nat ac_sta ac_ini hM.1.2.1 hM.1.2.1 dX4_remove_28 (by omega) rfl (by decide) ⟨(Nat.le_of_ble_eq_true rfl), (Nat.le_of_ble_eq_true rfl)⟩ (j_nm (fun X2 eX2 => ?_))
  have hM := hM.u_fs eX2
  refine j_aload_n hF dX4_remove_31 rfl (j_get hF hM.1.1 fl_RX4_15 dX4_remove_32 rfl (j_iload_n hF dX4_remove_35 rfl (j_iconst hF dX4_remove_36 (j_iadd hF dX4_remove_37 (j_aload_n hF dX4_remove_38 rfl ?_)))))
  refine j_get hF hM.1.1 fl_RX4_15 dX4_remove_39 rfl (j_iload_n hF dX4_remove_42 rfl (j_aload_n hF dX4_remove_43 rfl (j_get hF hM.1.1 fl_RX4_28 dX4_remove_44 rfl (j_iload_n hF dX4_remove_47 rfl (j_isub hF dX4_remove_48 ?_)))))
  refine j_copy hF lk_RX4_43 ac_nat ac_sta ac_ini hM.1.2.2.1 hM.1.2.2.1 dX4_remove_49 (by omega) rfl (by decide) ⟨(Nat.le_of_ble_eq_true rfl), (Nat.le_of_ble_eq_true rfl)⟩ (j_nm (fun X3 eX3 => ?_))
  have hM := hM.u_fv eX3
  refine j_vret hF hR dX4_remove_52 (by omega) (by omega) ?_
  refine ⟨rfl, _, _, _, _, _, _, hM, fun j j1 j2 => ?_, fun j j1 j2 => ?_⟩
  · rw [fcO (by omega), fcO (by omega)]; exact ⟨rfl, rfl⟩
  · rw [fcI (by omega) (by omega), fcI (by omega) (by omega), show row + 1 + (j - row) = j + 1 by omega]; exact ⟨rfl, rfl⟩

set_option maxRecDepth 100000 in
set_option maxHeartbeats 4000000 in
theorem c_X4_change {X : Hp} {b v n : Nat} {sz : Int} {f : Int → Int} (hR0 : VR X b v n sz f) {x c : Int} {n' : Nat} (hn' : n' = vc n sz f x) (hx : 0 ≤ x ∧ x < 16000) (hc : (-1 ≤ c ∧ c ≤ 1) ∧ ¬ c = 0) (hf : -1000000 ≤ f x ∧ f x ≤ 1000000) : Ct yX4_change cX4_change 4 none 4 97 [.ref v, vi x, vi c] X (n' - n) (6 * (n' - n)) (fun rv X' => rv = none ∧ VR X' b v n' (vz sz f x c) (fu f x (f x + c)) ∧ FB b (b + 10) X X') := by
  refine Ct.of (by decide +kernel) [some (.ref v), some (vi x), some (vi c), none] rfl (Nat.le_of_ble_eq_true rfl) (fun φ hF hR => ?_)
  obtain ⟨s, c_, k, fs, fv, fk, hM, hV, h16, hn⟩ := hR0
  have hM := hM.gg
  have hz := hV.1
  have hzt := hV.top
  refine j_aload_n hF dX4_change_0 rfl (j_iload_n hF dX4_change_1 rfl (j_callV hF (c_X4_firstRowFrom hM.1 hV.1 (by omega) hx) ms_X4_firstRowFrom mv_X4_firstRowFrom lk_RX4_25 dX4_change_2 hM.1.1 rfl rfl rfl (by simp [Value.category]) ⟨⟨(Nat.le_of_ble_eq_true rfl), (Nat.le_of_ble_eq_true rfl)⟩, by omega, by omega⟩ (fun v1 X1 hp1 hE1 => ?_)))
  obtain ⟨row, rfl, hr, hr1, hr2, he1⟩ := hp1
  obtain rfl := he1.symm
  refine j_istore_n hF dX4_change_5 (Nat.le_of_ble_eq_true rfl) rfl (j_iload_n hF dX4_change_6 rfl (j_aload_n hF dX4_change_7 rfl (j_get hF hM.1.1 fl_RX4_28 dX4_change_8 rfl (j_icmp_eq hF 24 dX4_change_11 (by decide) (by omega) (fun c11 => ?_) (fun c11 => ?_)))))
  ·
    obtain ⟨hgt, hf0⟩ := hV.gap hx hr hr1 hr2 (fun q => absurd q (by omega))
    have hn2 : n' = mr n (sz + 1) := by rw [hn', vc, if_pos hf0]
    have ez : vz sz f x c = sz + 1 := by rw [vz, if_pos hf0]
    refine j_aload_n hF dX4_change_24 rfl (j_iload_n hF dX4_change_25 rfl (j_iload_n hF dX4_change_26 rfl (j_iload_n hF dX4_change_27 rfl (j_callV hF (c_X4_insert hM.1 hn2 hr (by omega) (by omega) hx (by omega)) ms_X4_insert mv_X4_insert lk_RX4_32 dX4_change_28 hM.1.1 rfl rfl rfl (by simp [Value.category]) ⟨⟨(Nat.le_of_ble_eq_true rfl), (Nat.le_of_ble_eq_true rfl)⟩, by omega, by omega⟩ (fun v2 X2 hp2 hE2 => ?_)))))
    obtain ⟨rfl, s1, c1, k1, fs1, fv1, fk1, hM1, q1, q2, q3⟩ := hp2
    have hm2 := mr_ge n (sz + 1)
    have hm3 := mr_top (n := n) (z := sz + 1) (by omega) (by omega)
    rw [← hn2] at hm2 hm3
    have hEnd : VR X2 b v n' (vz sz f x c) (fu f x (f x + c)) ∧ FB b (b + 10) X X2 := by
      rw [ez, hf0, Int.zero_add]
      exact ⟨⟨_, _, _, _, _, _, hM1.1, hV.ins hx hf0 (by omega) hr (by omega) hr1 hgt q1 q2 q3, by omega, by omega⟩, hM1.2⟩
    refine j_goto hF 63 dX4_change_31 (by decide) (j_vret hF hR dX4_change_63 (by omega) (by omega) ?_)
    exact ⟨rfl, hEnd⟩
  ·
    refine j_aload_n hF dX4_change_14 rfl (j_get hF hM.1.1 fl_RX4_11 dX4_change_15 rfl (j_iload_n hF dX4_change_18 rfl (j_iald hF hM.1.2.1 dX4_change_19 (by omega) (fun ra3 rb3 => ?_))))
    refine j_iload_n hF dX4_change_20 rfl (j_icmp_eq hF 34 dX4_change_21 (by decide) (by omega) (fun c21 => ?_) (fun c21 => ?_))
    ·
      have hi0 := hV.2.1 row hr.1 (by omega)
      have hf0 : ¬ f x = 0 := by rw [← c21]; exact hi0.2.2
      have ev : fv row = f x := by rw [hi0.2.1, c21]
      have hn2 : n' = n := by rw [hn', vc, if_neg hf0]
      refine j_aload_n hF dX4_change_34 rfl (j_get hF hM.1.1 fl_RX4_15 dX4_change_35 rfl (j_iload_n hF dX4_change_38 rfl (j_iald hF hM.1.2.2.1 dX4_change_39 (by omega) (fun ra4 rb4 => ?_))))
      refine j_iload_n hF dX4_change_40 rfl (j_iadd hF dX4_change_41 (j_if_ne hF 53 dX4_change_42 (by decide) (by omega) (fun c42 => ?_) (fun c42 => ?_)))
      ·
        have ez : vz sz f x c = sz := by rw [vz, if_neg hf0, if_neg (by omega)]
        refine j_aload_n hF dX4_change_53 rfl (j_get hF hM.1.1 fl_RX4_15 dX4_change_54 rfl (j_iload_n hF dX4_change_57 rfl (j_dup2 hF dX4_change_58 rfl rfl (j_iald hF hM.1.2.2.1 dX4_change_59 (by omega) (fun ra5 rb5 => ?_)))))
        refine j_iload_n hF dX4_change_60 rfl (j_iadd hF dX4_change_61 (j_iast hF hM.1.2.2.1 dX4_change_62 (by omega) (by omega) (j_nm (fun X6 eX6 => ?_))))
        have hM := hM.u_fv eX6
        have hEnd : VR X6 b v n' (vz sz f x c) (fu f x (f x + c)) ∧ FB b (b + 10) X X6 := by
          rw [ez, hn2, ← ev]
          exact ⟨⟨_, _, _, _, _, _, hM.1, hV.set (by omega) c21 (by omega), by omega, by omega⟩, hM.2⟩
        refine j_vret hF hR dX4_change_63 (by omega) (by omega) ?_
        exact ⟨rfl, hEnd⟩
      ·
        have ez : vz sz f x c = sz - 1 := by rw [vz, if_neg hf0, if_pos (by omega)]
        refine j_aload_n hF dX4_change_45 rfl (j_iload_n hF dX4_change_46 rfl (j_callV hF (c_X4_remove hM.1 (by omega) (by omega) (by omega)) ms_X4_remove mv_X4_remove lk_RX4_36 dX4_change_47 hM.1.1 rfl rfl rfl (by simp [Value.category]) ⟨⟨(Nat.le_of_ble_eq_true rfl), (Nat.le_of_ble_eq_true rfl)⟩, by omega, by omega⟩ (fun v7 X7 hp7 hE7 => ?_)))
        obtain ⟨rfl, s1, c1, k1, fs1, fv1, fk1, hM1, q1, q2⟩ := hp7
        have hEnd : VR X7 b v n' (vz sz f x c) (fu f x (f x + c)) ∧ FB b (b + 10) X X7 := by
          rw [ez, hn2, show f x + c = 0 by omega]
          exact ⟨⟨_, _, _, _, _, _, hM1.1, hV.rem (by omega) c21 q1 q2, by omega, by omega⟩, hM1.2⟩
        refine j_goto hF 63 dX4_change_50 (by decide) (j_vret hF hR dX4_change_63 (by omega) (by omega) ?_)
        exact ⟨rfl, hEnd⟩
    ·
      obtain ⟨hgt, hf0⟩ := hV.gap hx hr hr1 hr2 (fun _ => c21)
      have hn2 : n' = mr n (sz + 1) := by rw [hn', vc, if_pos hf0]
      have ez : vz sz f x c = sz + 1 := by rw [vz, if_pos hf0]
      refine j_aload_n hF dX4_change_24 rfl (j_iload_n hF dX4_change_25 rfl (j_iload_n hF dX4_change_26 rfl (j_iload_n hF dX4_change_27 rfl (j_callV hF (c_X4_insert hM.1 hn2 hr (by omega) (by omega) hx (by omega)) ms_X4_insert mv_X4_insert lk_RX4_32 dX4_change_28 hM.1.1 rfl rfl rfl (by simp [Value.category]) ⟨⟨(Nat.le_of_ble_eq_true rfl), (Nat.le_of_ble_eq_true rfl)⟩, by omega, by omega⟩ (fun v8 X8 hp8 hE8 => ?_)))))
      obtain ⟨rfl, s1, c1, k1, fs1, fv1, fk1, hM1, q1, q2, q3⟩ := hp8
      have hm2 := mr_ge n (sz + 1)
      have hm3 := mr_top (n := n) (z := sz + 1) (by omega) (by omega)
      rw [← hn2] at hm2 hm3
      have hEnd : VR X8 b v n' (vz sz f x c) (fu f x (f x + c)) ∧ FB b (b + 10) X X8 := by
        rw [ez, hf0, Int.zero_add]
        exact ⟨⟨_, _, _, _, _, _, hM1.1, hV.ins hx hf0 (by omega) hr (by omega) hr1 hgt q1 q2 q3, by omega, by omega⟩, hM1.2⟩
      refine j_goto hF 63 dX4_change_31 (by decide) (j_vret hF hR dX4_change_63 (by omega) (by omega) ?_)
      exact ⟨rfl, hEnd⟩

set_option maxRecDepth 100000 in
set_option maxHeartbeats 4000000 in
theorem c_X4_copyFrom {X : Hp} {b v n : Nat} {sz : Int} {f : Int → Int} (hR0 : VR X b v n sz f) {b2 v2 n2 : Nat} {sz2 : Int} {f2 : Int → Int} (hR2 : VR X b2 v2 n2 sz2 f2) (hdis : b2 + 10 ≤ b ∨ b + 10 ≤ b2) {n' : Nat} (hn' : n' = mr n sz2) : Ct yX4_copyFrom cX4_copyFrom 2 none 3 74 [.ref v, .ref v2] X (n' - n) (6 * (n' - n)) (fun rv X' => rv = none ∧ VR X' b v n' sz2 f2 ∧ FB b (b + 10) X X') := by
  refine Ct.of (by decide +kernel) [some (.ref v), some (.ref v2)] rfl (Nat.le_of_ble_eq_true rfl) (fun φ hF hR => ?_)
  obtain ⟨s, c, k, fs, fv, fk, hM, hV, h16, hn⟩ := hR0
  obtain ⟨s2, c2, k2, fs2, fv2, fk2, hO, hV2, h162, hn2⟩ := hR2
  have hM := hM.gg
  have hz := hV2.1
  have hzt := hV2.top
  have hm2 := mr_ge n sz2
  have hm3 := mr_top (n := n) (z := sz2) (by omega) (by omega)
  rw [← hn'] at hm2 hm3
  refine j_aload_n hF dX4_copyFrom_0 rfl (j_aload_n hF dX4_copyFrom_1 rfl (j_get hF hO.1 fl_RX4_28 dX4_copyFrom_2 rfl (j_callV hF (c_X4_makeRoom hM.1 hn' (by omega) (by omega)) ms_X4_makeRoom mv_X4_makeRoom lk_RX4_40 dX4_copyFrom_5 hM.1.1 rfl rfl rfl (by simp [Value.category]) ⟨⟨(Nat.le_of_ble_eq_true rfl), (Nat.le_of_ble_eq_true rfl)⟩, by omega, by omega⟩ (fun v1 X1 hp1 hE1 => ?_))))
  obtain ⟨rfl, s1, c1, k1, fs1, fv1, fk1, hM1, hq1⟩ := hp1
  have hO := hO.keep hM1.2 (by omega)
  have hM := hM.tr hM1
  refine j_aload_n hF dX4_copyFrom_8 rfl (j_aload_n hF dX4_copyFrom_9 rfl (j_get hF hO.1 fl_RX4_28 dX4_copyFrom_10 rfl (j_put hF hM.1.1 fl_RX4_28 dX4_copyFrom_13 rfl rfl (Nat.le_of_ble_eq_true rfl) (j_nm (fun X2 eX2 => ?_)))))
  have hO := hO.keep (FB.up (lo := b) (hi := b + 10) eX2 hM.1.1 (by omega) (by omega)) (by omega)
  have hM := hM.u_sz eX2
  refine j_aload_n hF dX4_copyFrom_16 rfl (j_get hF hO.1 fl_RX4_11 dX4_copyFrom_17 rfl (j_iconst hF dX4_copyFrom_20 (j_aload_n hF dX4_copyFrom_21 rfl (j_get hF hM.1.1 fl_RX4_11 dX4_copyFrom_22 rfl (j_iconst hF dX4_copyFrom_25 ?_)))))
  refine j_aload_n hF dX4_copyFrom_26 rfl (j_get hF hM.1.1 fl_RX4_28 dX4_copyFrom_27 rfl (j_copy hF lk_RX4_43 ac_nat ac_sta ac_ini hO.2.1 hM.1.2.1 dX4_copyFrom_30 (by omega) rfl (by decide) ⟨(Nat.le_of_ble_eq_true rfl), (Nat.le_of_ble_eq_true rfl)⟩ (j_nm (fun X3 eX3 => ?_))))
  have hO := hO.keep (FB.up (lo := b) (hi := b + 10) eX3 hM.1.2.1 (by omega) (by omega)) (by omega)
  have hM := hM.u_fs eX3
  refine j_aload_n hF dX4_copyFrom_33 rfl (j_get hF hO.1 fl_RX4_15 dX4_copyFrom_34 rfl (j_iconst hF dX4_copyFrom_37 (j_aload_n hF dX4_copyFrom_38 rfl (j_get hF hM.1.1 fl_RX4_15 dX4_copyFrom_39 rfl (j_iconst hF dX4_copyFrom_42 ?_)))))
  refine j_aload_n hF dX4_copyFrom_43 rfl (j_get hF hM.1.1 fl_RX4_28 dX4_copyFrom_44 rfl (j_copy hF lk_RX4_43 ac_nat ac_sta ac_ini hO.2.2.1 hM.1.2.2.1 dX4_copyFrom_47 (by omega) rfl (by decide) ⟨(Nat.le_of_ble_eq_true rfl), (Nat.le_of_ble_eq_true rfl)⟩ (j_nm (fun X4 eX4 => ?_))))
  have hO := hO.keep (FB.up (lo := b) (hi := b + 10) eX4 hM.1.2.2.1 (by omega) (by omega)) (by omega)
  have hM := hM.u_fv eX4
  refine j_vret hF hR dX4_copyFrom_50 (by omega) (by omega) ?_
  exact ⟨rfl, ⟨_, _, _, _, _, _, hM.1, hV2.cong (by omega) (fun i i1 i2 => ⟨fcS i1 i2, fcS i1 i2⟩), by omega, by omega⟩, hM.2⟩

set_option maxRecDepth 100000 in
set_option maxHeartbeats 4000000 in
theorem c_X4_init {X : Hp} {b v : Nat} (h_v : X v = some (b, ob 4 [vi 0, .null, .null, .null])) : Ct yX4_init cX4_init 1 none 1 20 [.ref v] X 3 48 (fun rv X' => rv = none ∧ ∃ s' c' k', VPG X X' b v s' c' k' 16 0 (fun _ => 0) (fun _ => 0) (fun _ => 0)) := by
  refine Ct.of (by decide +kernel) [some (.ref v)] rfl (Nat.le_of_ble_eq_true rfl) (fun φ hF hR => ?_)
  have hfr := FB.refl b (b + 10) X
  refine j_aload_n hF dX4_init_0 rfl (j_obj hF lk_RX4_3 kl_oi kl_oc dX4_init_1 rfl (by decide) (Nat.le_of_ble_eq_true rfl) (Nat.le_of_ble_eq_true rfl) ?_)
  refine j_aload_n hF dX4_init_4 rfl (j_bipush hF dX4_init_5 (by decide) (j_newi hF (b + 1) (16) kl_ac dX4_init_7 (by decide) (by omega) (by omega) (fun a_s hq1 => j_nm (fun X1 eX1 => ?_)) (by rfl)))
  have h_v := upn eX1 h_v hq1
  have h_s := ups eX1
  have hfr := hfr.trans (FB.new eX1 hq1)
  refine j_put hF h_v fl_RX4_11 dX4_init_9 rfl rfl (Nat.le_of_ble_eq_true rfl) (j_nm (fun X2 eX2 => ?_))
  have hfr := hfr.trans (FB.up eX2 h_v (by omega) (by omega))
  have h_s := upx eX2 h_s h_v (by omega)
  have h_v := ups eX2
  refine j_aload_n hF dX4_init_12 rfl (j_bipush hF dX4_init_13 (by decide) (j_newi hF (b + 2) (16) kl_ac dX4_init_15 (by decide) (by omega) (by omega) (fun a_c hq3 => j_nm (fun X3 eX3 => ?_)) (by rfl)))
  have h_v := upn eX3 h_v hq3
  have h_s := upn eX3 h_s hq3
  have h_c := ups eX3
  have hfr := hfr.trans (FB.new eX3 hq3)
  refine j_put hF h_v fl_RX4_15 dX4_init_17 rfl rfl (Nat.le_of_ble_eq_true rfl) (j_nm (fun X4 eX4 => ?_))
  have hfr := hfr.trans (FB.up eX4 h_v (by omega) (by omega))
  have h_s := upx eX4 h_s h_v (by omega)
  have h_c := upx eX4 h_c h_v (by omega)
  have h_v := ups eX4
  refine j_aload_n hF dX4_init_20 rfl (j_bipush hF dX4_init_21 (by decide) (j_newi hF (b + 3) (16) kl_ac dX4_init_23 (by decide) (by omega) (by omega) (fun a_k hq5 => j_nm (fun X5 eX5 => ?_)) (by rfl)))
  have h_v := upn eX5 h_v hq5
  have h_s := upn eX5 h_s hq5
  have h_c := upn eX5 h_c hq5
  have h_k := ups eX5
  have hfr := hfr.trans (FB.new eX5 hq5)
  refine j_put hF h_v fl_RX4_18 dX4_init_25 rfl rfl (Nat.le_of_ble_eq_true rfl) (j_nm (fun X6 eX6 => ?_))
  have hfr := hfr.trans (FB.up eX6 h_v (by omega) (by omega))
  have h_s := upx eX6 h_s h_v (by omega)
  have h_c := upx eX6 h_c h_v (by omega)
  have h_k := upx eX6 h_k h_v (by omega)
  have h_v := ups eX6
  refine j_vret hF hR dX4_init_28 (by omega) (by omega) ?_
  exact ⟨rfl, a_s, a_c, a_k, ⟨h_v, h_s, h_c, h_k⟩, hfr⟩

theorem VR.new {X X' : Hp} {b v s c k : Nat} {f1 f2 f3 : Int → Int} (h : VPG X X' b v s c k 16 0 f1 f2 f3) : VR X' b v 16 0 (fun _ => 0) := ⟨_, _, _, _, _, _, h.1, ⟨⟨by omega, by omega⟩, fun i i1 i2 => absurd i2 (by omega), fun i j i1 i2 i3 => absurd i3 (by omega), fun x _ _ h => absurd rfl h⟩, by omega, by omega⟩
theorem VR.keep {X X1 : Hp} {b v n : Nat} {sz : Int} {f : Int → Int} (h : VR X b v n sz f) {lo hi : Nat} (hF : FB lo hi X X1) (hd : b + 10 ≤ lo ∨ hi ≤ b) : VR X1 b v n sz f := by
  obtain ⟨s, c, k, fs, fv, fk, hM, hV⟩ := h
  exact ⟨s, c, k, fs, fv, fk, hM.keep hF hd, hV⟩
