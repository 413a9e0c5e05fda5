/-! bounded all and some, sums -/
def BA (P : Int → Prop) (n : Int) : Prop := ∀ i, 0 ≤ i → i < n → P i
def BE (P : Int → Prop) (n : Int) : Prop := ∃ i, 0 ≤ i ∧ i < n ∧ P i
theorem BA.z (P : Int → Prop) : BA P 0 := fun i h1 h2 => by omega
theorem BA.s {P : Int → Prop} {n : Int} (h : BA P n) (hn : P n) : BA P (n + 1) := fun i h1 h2 => by
  rcases (show i < n ∨ i = n by omega) with h3 | rfl
  · exact h i h1 h3
  · exact hn
theorem BA.f {P : Int → Prop} {n : Int} (h : ¬ BA P n) : ¬ BA P (n + 1) := fun g => h fun i h1 h2 => g i h1 (by omega)
theorem BA.n {P : Int → Prop} {n : Int} (h0 : 0 ≤ n) (h : ¬ P n) : ¬ BA P (n + 1) := fun g => h (g n h0 (by omega))
theorem BE.z (P : Int → Prop) : ¬ BE P 0 := fun ⟨i, h1, h2, _⟩ => by omega
theorem BE.t {P : Int → Prop} {n : Int} (h : BE P n) : BE P (n + 1) := by
  obtain ⟨i, h1, h2, h3⟩ := h
  exact ⟨i, h1, by omega, h3⟩
theorem BE.n {P : Int → Prop} {n : Int} (h0 : 0 ≤ n) (h : P n) : BE P (n + 1) := ⟨n, h0, by omega, h⟩
theorem BE.f {P : Int → Prop} {n : Int} (h : ¬ BE P n) (hn : ¬ P n) : ¬ BE P (n + 1) := fun ⟨i, h1, h2, h3⟩ => by
  rcases (show i < n ∨ i = n by omega) with h4 | rfl
  · exact h ⟨i, h1, h4, h3⟩
  · exact hn h3
def cf (f : Int → Int) : Nat → Int
  | 0 => 0
  | n + 1 => cf f n + f n
noncomputable def pif {α : Type} (p : Prop) (a b : α) : α := @ite α p (Classical.propDecidable p) a b
theorem pif_t {α : Type} {p : Prop} {a b : α} (h : p) : pif p a b = a := if_pos h
theorem pif_f {α : Type} {p : Prop} {a b : α} (h : ¬ p) : pif p a b = b := if_neg h
/-! rows -/
def m_upd (r : Int → Int) (w p t c : Int) : Int → Int :=
  fu (fu (fu (fu r (6359 + 1000 * (16 * w + p) + t) (r (6359 + 1000 * (16 * w + p) + t) + c)) (38359 + 8192 * (1 - w) + (fu r (6359 + 1000 * (16 * w + p) + t) (r (6359 + 1000 * (16 * w + p) + t) + c)) (357 + (1 - w))) (2 * (1000 * p + t) + (if 0 < c then 1 else 0))) (357 + (1 - w)) ((fu (fu r (6359 + 1000 * (16 * w + p) + t) (r (6359 + 1000 * (16 * w + p) + t) + c)) (38359 + 8192 * (1 - w) + (fu r (6359 + 1000 * (16 * w + p) + t) (r (6359 + 1000 * (16 * w + p) + t) + c)) (357 + (1 - w))) (2 * (1000 * p + t) + (if 0 < c then 1 else 0))) (357 + (1 - w)) + 1)) 2 1
def m_put (r : Int → Int) (w e t : Int) : Int → Int := fu (fu r (67 + 12 * (10 * w + e) + r (47 + (10 * w + e))) t) (47 + (10 * w + e)) ((fu r (67 + 12 * (10 * w + e) + r (47 + (10 * w + e))) t) (47 + (10 * w + e)) + 1)
def RI (r : Int → Int) (N : Int) : Prop := (∀ i, 6359 ≤ i → i < 38359 → -(10 * N) ≤ r i ∧ r i ≤ 10 * N) ∧ (0 ≤ r 357 ∧ r 357 ≤ N) ∧ (0 ≤ r 358 ∧ r 358 ≤ N)
def RM2 (r : Int → Int) : Prop := ∀ l, 0 ≤ l → l < 20 → 0 ≤ r (47 + l) ∧ r (47 + l) ≤ 12
theorem RI.up {r : Int → Int} {N w p t c : Int} (h : RI r N) (hN : N < 8192) (hw : 0 ≤ w ∧ w ≤ 1) (hp : 0 ≤ p ∧ p < 16) (ht : 0 ≤ t ∧ t ≤ 999) (hc : c = 1 ∨ c = -1) : RI (m_upd r w p t c) (N + 1) := by
  obtain ⟨h1, h2, h3⟩ := h
  have v1 := h1 (6359 + 1000 * (16 * w + p) + t) (by omega) (by omega)
  have e1 : r (357 + (1 - w)) = r 357 ∨ r (357 + (1 - w)) = r 358 := by
    rcases (show w = 0 ∨ w = 1 by omega) with rfl | rfl
    · right; congr 1
    · left; congr 1
  have f1 : (fu r (6359 + 1000 * (16 * w + p) + t) (r (6359 + 1000 * (16 * w + p) + t) + c)) (357 + (1 - w)) = r (357 + (1 - w)) := fu_n (by omega)
  refine ⟨fun i a1 a2 => ?_, ?_, ?_⟩
  · have := h1 i a1 a2
    simp only [m_upd, f1]
    rw [fu_n (by omega), fu_n (by omega), fu_n (by omega)]
    unfold fu
    split
    · omega
    · omega
  · simp only [m_upd, f1]
    rw [fu_n (by omega)]
    rcases (show w = 0 ∨ w = 1 by omega) with rfl | rfl
    · rw [fu_n (by omega), fu_n (by omega), fu_n (by omega)]; omega
    · show 0 ≤ fu _ 357 _ 357 ∧ fu _ 357 _ 357 ≤ _
      rw [fu_s, fu_n (by omega), fu_n (by omega)]
      show 0 ≤ r 357 + 1 ∧ r 357 + 1 ≤ _
      omega
  · simp only [m_upd, f1]
    rw [fu_n (by omega)]
    rcases (show w = 0 ∨ w = 1 by omega) with rfl | rfl
    · show 0 ≤ fu _ 358 _ 358 ∧ fu _ 358 _ 358 ≤ _
      rw [fu_s, fu_n (by omega), fu_n (by omega)]
      show 0 ≤ r 358 + 1 ∧ r 358 + 1 ≤ _
      omega
    · rw [fu_n (by omega), fu_n (by omega), fu_n (by omega)]; omega
theorem m_upd_lo {r : Int → Int} {N w p t c i : Int} (h : RI r N) (hw : 0 ≤ w ∧ w ≤ 1) (hp : 0 ≤ p ∧ p < 16) (ht : 0 ≤ t ∧ t ≤ 999) (h1 : i ≠ 2) (h2 : i < 357 ∨ (358 < i ∧ i < 6359)) : m_upd r w p t c i = r i := by
  have f1 : (fu r (6359 + 1000 * (16 * w + p) + t) (r (6359 + 1000 * (16 * w + p) + t) + c)) (357 + (1 - w)) = r (357 + (1 - w)) := fu_n (by omega)
  have e1 : 0 ≤ r (357 + (1 - w)) := by
    rcases (show w = 0 ∨ w = 1 by omega) with rfl | rfl
    · exact h.2.2.1
    · exact h.2.1.1
  simp only [m_upd, f1]
  rw [fu_n (by omega), fu_n (by omega), fu_n (by omega), fu_n (by omega)]
theorem m_put_n {r : Int → Int} {w e t i : Int} (h : RM2 r) (hw : 0 ≤ w ∧ w ≤ 1) (he : 0 ≤ e ∧ e < 10) (h2 : i < 47 ∨ 319 ≤ i) : m_put r w e t i = r i := by
  have h1 := h (10 * w + e) (by omega) (by omega)
  simp only [m_put]
  rw [fu_n (by omega), fu_n (by omega)]
def m_pa (w o tg t : Int) : Nat → (Int → Int) → (Int → Int)
  | 0, r => r
  | n + 1, r => if o / pw n % 2 = 1 then m_upd (m_put (m_pa w o tg t n r) tg n t) w (6 + n) t 1 else m_pa w o tg t n r
/-- shifting a line -/
def m_tk (r : Int → Int) (l k : Int) : Int → Int := fun j => if 67 + 12 * l ≤ j ∧ j < 67 + 12 * l + k then r (j + 1) else r j
theorem m_tk_0 (r : Int → Int) (l : Int) : m_tk r l 0 = r := by funext j; simp only [m_tk]; split <;> first | rfl | omega
theorem m_tk_s (r : Int → Int) (l k : Int) (h : 0 ≤ k) : fu (m_tk r l k) (67 + 12 * l + k) (m_tk r l k (67 + 12 * l + k + 1)) = m_tk r l (k + 1) := by
  funext j
  simp only [fu, m_tk]
  (repeat' split) <;> first | rfl | omega | (congr 1; omega)
def m_take (r : Int → Int) (l : Int) : Int → Int := m_tk (fu r (47 + l) (r (47 + l) - 1)) l (r (47 + l) - 1)
set_option maxRecDepth 100000 in
set_option maxHeartbeats 4000000 in
theorem c_X8_puts {X : Hp} {ad : Nat → Nat} {r pf : Int → Int} {sv : Int} {er sn lw rc wt : Int → Int} {wg : Int} {ls ac fi : Int → Int} {as : Int} {hh : Int64} (hM : MM X ad r pf sv er sn lw rc wt wg ls ac fi as hh) {w e t : Int} (hw : 0 ≤ w ∧ w ≤ 1) (he : 0 ≤ e ∧ e < 10) (ht : 0 ≤ t ∧ t ≤ 999) (hm : 0 ≤ r (47 + (10 * w + e)) ∧ r (47 + (10 * w + e)) < 12) : Ct yX8_puts cX8_puts 5 none 1 22 [.ref (ad 0), vi w, vi e, vi t] X 0 0 (fun rv X' => rv = none ∧ MG X X' ad (m_put r w e t) pf sv er sn lw rc wt wg ls ac fi as hh) := by
  refine Ct.of (by decide +kernel) [some (.ref (ad 0)), some (vi w), some (vi e), some (vi t), none] rfl (Nat.le_of_ble_eq_true rfl) (fun φ hF hR => ?_)
  have hM := hM.g
  refine j_aload_n hF dX8_puts_0 rfl (j_iload_n hF dX8_puts_1 rfl (j_iload_n hF dX8_puts_2 rfl (j_callV hF (c_X8_lineOf hM.1) ms_X8_lineOf mv_X8_lineOf lk_RX8_108 dX8_puts_3 hM.1.1 rfl rfl rfl (by simp [Value.category]) ⟨⟨(Nat.le_of_ble_eq_true rfl), (Nat.le_of_ble_eq_true rfl)⟩, by omega, by omega⟩ (fun v1 X1 hp1 hE1 => ?_))))
  obtain ⟨rfl, he1⟩ := hp1; obtain rfl := he1.symm
  refine j_istore hF dX8_puts_6 (Nat.le_of_ble_eq_true rfl) rfl (j_aload_n hF dX8_puts_8 rfl (j_get hF hM.1.1 fl_RX8_8 dX8_puts_9 rfl (j_bipush hF dX8_puts_12 (by decide) (j_bipush hF dX8_puts_14 (by decide) (j_iload hF dX8_puts_16 rfl ?_)))))
  refine j_imul hF dX8_puts_18 (j_iadd hF dX8_puts_19 (j_aload_n hF dX8_puts_20 rfl (j_get hF hM.1.1 fl_RX8_8 dX8_puts_21 rfl (j_bipush hF dX8_puts_24 (by decide) (j_iload hF dX8_puts_26 rfl ?_)))))
  refine j_iadd hF dX8_puts_28 (j_iald hF hM.1.2.1 dX8_puts_29 (by omega) (fun ra2 rb2 => ?_))
  refine j_iadd hF dX8_puts_30 (j_iload_n hF dX8_puts_31 rfl (j_iast hF hM.1.2.1 dX8_puts_32 (by omega) (by omega) (j_nm (fun X3 eX3 => ?_))))
  have hM := hM.u_r eX3
  refine j_aload_n hF dX8_puts_33 rfl (j_get hF hM.1.1 fl_RX8_8 dX8_puts_34 rfl (j_bipush hF dX8_puts_37 (by decide) (j_iload hF dX8_puts_39 rfl (j_iadd hF dX8_puts_41 (j_dup2 hF dX8_puts_42 rfl rfl ?_)))))
  refine j_iald hF hM.1.2.1 dX8_puts_43 (by omega) (fun ra4 rb4 => ?_)
  refine j_iconst hF dX8_puts_44 (j_iadd hF dX8_puts_45 (j_iast hF hM.1.2.1 dX8_puts_46 (by omega) (by simp only [fu]; (repeat' split) <;> omega) (j_nm (fun X5 eX5 => ?_))))
  have hM := hM.u_r eX5
  refine j_vret hF hR dX8_puts_47 (by omega) (by omega) ?_
  exact ⟨rfl, hM⟩

set_option maxRecDepth 100000 in
set_option maxHeartbeats 4000000 in
theorem c_X8_updates {X : Hp} {ad : Nat → Nat} {r pf : Int → Int} {sv : Int} {er sn lw rc wt : Int → Int} {wg : Int} {ls ac fi : Int → Int} {as : Int} {hh : Int64} (hM : MM X ad r pf sv er sn lw rc wt wg ls ac fi as hh) {w p t c N : Int} (hw : 0 ≤ w ∧ w ≤ 1) (hp : 0 ≤ p ∧ p < 16) (ht : 0 ≤ t ∧ t ≤ 999) (hc : c = 1 ∨ c = -1) (hN : N < 8192) (hI : RI r N) : Ct yX8_updates cX8_updates 6 none 1 23 [.ref (ad 0), vi w, vi p, vi t, vi c] X 0 0 (fun rv X' => rv = none ∧ MG X X' ad (m_upd r w p t c) pf sv er sn lw rc wt wg ls ac fi as hh) := by
  refine Ct.of (by decide +kernel) [some (.ref (ad 0)), some (vi w), some (vi p), some (vi t), some (vi c), none] rfl (Nat.le_of_ble_eq_true rfl) (fun φ hF hR => ?_)
  have hM := hM.g
  have v1 := hI.1 (6359 + 1000 * (16 * w + p) + t) (by omega) (by omega)
  have v2 : 0 ≤ r (357 + (1 - w)) ∧ r (357 + (1 - w)) ≤ N := by
    rcases (show w = 0 ∨ w = 1 by omega) with rfl | rfl
    · exact hI.2.2
    · exact hI.2.1
  refine j_aload_n hF dX8_updates_0 rfl (j_get hF hM.1.1 fl_RX8_8 dX8_updates_1 rfl (j_aload_n hF dX8_updates_4 rfl (j_iload_n hF dX8_updates_5 rfl (j_iload_n hF dX8_updates_6 rfl (j_iload_n hF dX8_updates_7 rfl ?_)))))
  refine j_callV hF (c_X8_viewAt hM.1) ms_X8_viewAt mv_X8_viewAt lk_RX8_59 dX8_updates_8 hM.1.1 rfl rfl rfl (by simp [Value.category]) ⟨⟨(Nat.le_of_ble_eq_true rfl), (Nat.le_of_ble_eq_true rfl)⟩, by omega, by omega⟩ (fun v1 X1 hp1 hE1 => ?_)
  obtain ⟨rfl, he1⟩ := hp1; obtain rfl := he1.symm
  refine j_dup2 hF dX8_updates_11 rfl rfl (j_iald hF hM.1.2.1 dX8_updates_12 (by omega) (fun ra2 rb2 => ?_))
  refine j_iload hF dX8_updates_13 rfl (j_iadd hF dX8_updates_15 (j_iast hF hM.1.2.1 dX8_updates_16 (by omega) (by omega) (j_nm (fun X3 eX3 => ?_))))
  have hM := hM.u_r eX3
  refine j_iconst hF dX8_updates_17 (j_iload_n hF dX8_updates_18 rfl (j_isub hF dX8_updates_19 (j_istore hF dX8_updates_20 (Nat.le_of_ble_eq_true rfl) rfl (j_aload_n hF dX8_updates_22 rfl (j_get hF hM.1.1 fl_RX8_8 dX8_updates_23 rfl ?_)))))
  refine j_ldc hF kc_RX8_107 dX8_updates_26 (j_sipush hF dX8_updates_28 (by decide) (j_iload hF dX8_updates_31 rfl (j_imul hF dX8_updates_33 (j_iadd hF dX8_updates_34 (j_aload_n hF dX8_updates_35 rfl ?_)))))
  refine j_get hF hM.1.1 fl_RX8_8 dX8_updates_36 rfl (j_sipush hF dX8_updates_39 (by decide) (j_iload hF dX8_updates_42 rfl (j_iadd hF dX8_updates_44 (j_iald hF hM.1.2.1 dX8_updates_45 (by omega) (fun ra4 rb4 => ?_)))))
  refine j_iadd hF dX8_updates_46 (j_iconst hF dX8_updates_47 (j_sipush hF dX8_updates_48 (by decide) (j_iload_n hF dX8_updates_51 rfl (j_imul hF dX8_updates_52 (j_iload_n hF dX8_updates_53 rfl ?_)))))
  refine j_iadd hF dX8_updates_54 (j_imul hF dX8_updates_55 (j_iload hF dX8_updates_56 rfl (j_if_le hF 65 dX8_updates_58 (by decide) (by omega) (fun c58 => ?_) (fun c58 => ?_))))
  ·
    refine j_iconst hF dX8_updates_65 (j_iadd hF dX8_updates_66 (j_iast hF hM.1.2.1 dX8_updates_67 (by simp only [fu]; (repeat' split) <;> omega) (by omega) (j_nm (fun X5 eX5 => ?_))))
    have hM := hM.u_r eX5
    refine j_aload_n hF dX8_updates_68 rfl (j_get hF hM.1.1 fl_RX8_8 dX8_updates_69 rfl (j_sipush hF dX8_updates_72 (by decide) (j_iload hF dX8_updates_75 rfl (j_iadd hF dX8_updates_77 (j_dup2 hF dX8_updates_78 rfl rfl ?_)))))
    refine j_iald hF hM.1.2.1 dX8_updates_79 (by omega) (fun ra6 rb6 => ?_)
    refine j_iconst hF dX8_updates_80 (j_iadd hF dX8_updates_81 (j_iast hF hM.1.2.1 dX8_updates_82 (by omega) (by simp only [fu]; (repeat' split) <;> omega) (j_nm (fun X7 eX7 => ?_))))
    have hM := hM.u_r eX7
    refine j_aload_n hF dX8_updates_83 rfl (j_get hF hM.1.1 fl_RX8_8 dX8_updates_84 rfl (j_iconst hF dX8_updates_87 (j_iconst hF dX8_updates_88 (j_iast hF hM.1.2.1 dX8_updates_89 (by omega) (by omega) (j_nm (fun X8 eX8 => ?_))))))
    have hM := hM.u_r eX8
    refine j_vret hF hR dX8_updates_90 (by omega) (by omega) ?_
    exact ⟨rfl, by first | (simp only [m_upd, if_pos c58]; exact hM) | (simp only [m_upd, if_neg (Int.not_lt.mpr c58)]; exact hM)⟩
  ·
    refine j_iconst hF dX8_updates_61 (j_goto hF 66 dX8_updates_62 (by decide) (j_iadd hF dX8_updates_66 (j_iast hF hM.1.2.1 dX8_updates_67 (by simp only [fu]; (repeat' split) <;> omega) (by omega) (j_nm (fun X9 eX9 => ?_)))))
    have hM := hM.u_r eX9
    refine j_aload_n hF dX8_updates_68 rfl (j_get hF hM.1.1 fl_RX8_8 dX8_updates_69 rfl (j_sipush hF dX8_updates_72 (by decide) (j_iload hF dX8_updates_75 rfl (j_iadd hF dX8_updates_77 (j_dup2 hF dX8_updates_78 rfl rfl ?_)))))
    refine j_iald hF hM.1.2.1 dX8_updates_79 (by omega) (fun ra10 rb10 => ?_)
    refine j_iconst hF dX8_updates_80 (j_iadd hF dX8_updates_81 (j_iast hF hM.1.2.1 dX8_updates_82 (by omega) (by simp only [fu]; (repeat' split) <;> omega) (j_nm (fun X11 eX11 => ?_))))
    have hM := hM.u_r eX11
    refine j_aload_n hF dX8_updates_83 rfl (j_get hF hM.1.1 fl_RX8_8 dX8_updates_84 rfl (j_iconst hF dX8_updates_87 (j_iconst hF dX8_updates_88 (j_iast hF hM.1.2.1 dX8_updates_89 (by omega) (by omega) (j_nm (fun X12 eX12 => ?_))))))
    have hM := hM.u_r eX12
    refine j_vret hF hR dX8_updates_90 (by omega) (by omega) ?_
    exact ⟨rfl, by first | (simp only [m_upd, if_pos c58]; exact hM) | (simp only [m_upd, if_neg (Int.not_lt.mpr c58)]; exact hM)⟩

set_option maxRecDepth 100000 in
set_option maxHeartbeats 4000000 in
theorem c_X8_startAt {X : Hp} {ad : Nat → Nat} {r pf : Int → Int} {sv : Int} {er sn lw rc wt : Int → Int} {wg : Int} {ls ac fi : Int → Int} {as : Int} {hh : Int64} (hM : MM X ad r pf sv er sn lw rc wt wg ls ac fi as hh) {o nd : Int} (hG : GI r) (ho : 0 ≤ o ∧ o < 1024) (hn : -2147483648 ≤ nd ∧ nd ≤ 2147483647) : Ct yX8_startAt cX8_startAt 5 (some .boolean) 1 21 [.ref (ad 0), vi o, vi nd] X 0 0 (fun rv X' => rv = some (vi (bz (BA (fun e => hb o e → r (17 + e) = nd) (r 1)))) ∧ X' = X) := by
  refine Ct.of (by decide +kernel) [some (.ref (ad 0)), some (vi o), some (vi nd), none, none] rfl (Nat.le_of_ble_eq_true rfl) (fun φ hF hR => ?_)
  have hM := hM.g
  have g0 := hG.2.1
  refine j_iconst hF dX8_startAt_0 (j_istore_n hF dX8_startAt_1 (Nat.le_of_ble_eq_true rfl) rfl (j_iconst hF dX8_startAt_2 (j_istore hF dX8_startAt_3 (Nat.le_of_ble_eq_true rfl) rfl ?_)))
  have LL : ∀ (n : Nat) (k : Int), (r 1 - k).toNat < n → 0 ≤ k ∧ k ≤ r 1 → Jd φ X 0 0 5 [some (.ref (ad 0)), some (vi o), some (vi nd), some (vi (bz (BA (fun e => hb o e → r (17 + e) = nd) k))), some (vi k)] [] := by
    intro n
    induction n with
    | zero => intro k hfu; exact absurd hfu (by omega)
    | succ n ih =>
      intro k hfu hk
      refine j_iload hF dX8_startAt_5 rfl (j_aload_n hF dX8_startAt_7 rfl (j_get hF hM.1.1 fl_RX8_8 dX8_startAt_8 rfl (j_iconst hF dX8_startAt_11 (j_iald hF hM.1.2.1 dX8_startAt_12 (by omega) (fun ra1 rb1 => ?_)))))
      refine j_icmp_ge hF 55 dX8_startAt_13 (by decide) (by omega) (fun c13 => ?_) (fun c13 => ?_)
      ·
        refine j_iload_n hF dX8_startAt_55 rfl (j_zret hF hR (bz_01 _) dX8_startAt_56 (by omega) (by omega) ?_)
        have ek : k = r 1 := by omega
        rw [ek]
        exact ⟨rfl, rfl⟩
      ·
        refine j_iload_n hF dX8_startAt_16 rfl (j_b_eq hF 47 dX8_startAt_17 (by decide) (fun cb => ?_) (fun cb => ?_))
        ·
          refine j_iconst hF dX8_startAt_47 (j_istore_n hF dX8_startAt_48 (Nat.le_of_ble_eq_true rfl) rfl (j_iinc hF dX8_startAt_49 rfl (Nat.le_of_ble_eq_true rfl) rfl (j_goto hF 5 dX8_startAt_52 (by decide) ?_)))
          have hi := ih (k + 1) (by omega) (by omega)
          rw [bz_f (by first | exact BA.f cb | exact BA.n (by omega) (by first | exact (fun h => absurd h c26) | exact (fun _ => c40) | exact (fun h => c40 (h c26))))] at hi
          exact hi
        ·
          refine j_iload_n hF dX8_startAt_20 rfl (j_iload hF dX8_startAt_21 rfl (j_callS hF (c_X8_has (by omega) (by omega)) ms_X8_has mt_X8_has lk_RX8_125 dX8_startAt_23 rfl rfl rfl (by simp [Value.category]) ⟨⟨(Nat.le_of_ble_eq_true rfl), (Nat.le_of_ble_eq_true rfl)⟩, by omega, by omega⟩ (fun v2 X2 hp2 hE2 => ?_)))
          obtain ⟨rfl, he2⟩ := hp2; obtain rfl := he2.symm
          refine j_b_eq hF 43 dX8_startAt_26 (by decide) (fun c26 => ?_) (fun c26 => ?_)
          ·
            refine j_iconst hF dX8_startAt_43 (j_goto hF 48 dX8_startAt_44 (by decide) (j_istore_n hF dX8_startAt_48 (Nat.le_of_ble_eq_true rfl) rfl (j_iinc hF dX8_startAt_49 rfl (Nat.le_of_ble_eq_true rfl) rfl (j_goto hF 5 dX8_startAt_52 (by decide) ?_))))
            have hi := ih (k + 1) (by omega) (by omega)
            rw [bz_t (BA.s cb (by first | exact (fun h => absurd h c26) | exact (fun _ => c40) | exact (fun h => c40 (h c26))))] at hi
            exact hi
          ·
            refine j_aload_n hF dX8_startAt_29 rfl (j_get hF hM.1.1 fl_RX8_8 dX8_startAt_30 rfl (j_bipush hF dX8_startAt_33 (by decide) (j_iload hF dX8_startAt_35 rfl (j_iadd hF dX8_startAt_37 (j_iald hF hM.1.2.1 dX8_startAt_38 (by omega) (fun ra3 rb3 => ?_))))))
            refine j_iload_n hF dX8_startAt_39 rfl (j_icmp_ne hF 47 dX8_startAt_40 (by decide) (by omega) (fun c40 => ?_) (fun c40 => ?_))
            ·
              refine j_iconst hF dX8_startAt_47 (j_istore_n hF dX8_startAt_48 (Nat.le_of_ble_eq_true rfl) rfl (j_iinc hF dX8_startAt_49 rfl (Nat.le_of_ble_eq_true rfl) rfl (j_goto hF 5 dX8_startAt_52 (by decide) ?_)))
              have hi := ih (k + 1) (by omega) (by omega)
              rw [bz_f (by first | exact BA.f cb | exact BA.n (by omega) (by first | exact (fun h => absurd h c26) | exact (fun _ => c40) | exact (fun h => c40 (h c26))))] at hi
              exact hi
            ·
              refine j_iconst hF dX8_startAt_43 (j_goto hF 48 dX8_startAt_44 (by decide) (j_istore_n hF dX8_startAt_48 (Nat.le_of_ble_eq_true rfl) rfl (j_iinc hF dX8_startAt_49 rfl (Nat.le_of_ble_eq_true rfl) rfl (j_goto hF 5 dX8_startAt_52 (by decide) ?_))))
              have hi := ih (k + 1) (by omega) (by omega)
              rw [bz_t (BA.s cb (by first | exact (fun h => absurd h c26) | exact (fun _ => c40) | exact (fun h => c40 (h c26))))] at hi
              exact hi
  have h0 := LL ((r 1 : Int).toNat + 1) 0 (by omega) (by omega)
  rw [bz_t (BA.z _)] at h0
  exact h0

set_option maxRecDepth 100000 in
set_option maxHeartbeats 4000000 in
theorem c_X8_isOneFull {X : Hp} {ad : Nat → Nat} {r pf : Int → Int} {sv : Int} {er sn lw rc wt : Int → Int} {wg : Int} {ls ac fi : Int → Int} {as : Int} {hh : Int64} (hM : MM X ad r pf sv er sn lw rc wt wg ls ac fi as hh) {o tg : Int} (hG : GI r) (ho : 0 ≤ o ∧ o < 1024) (hw : 0 ≤ tg ∧ tg ≤ 1) : Ct yX8_isOneFull cX8_isOneFull 5 (some .boolean) 2 44 [.ref (ad 0), vi o, vi tg] X 0 0 (fun rv X' => rv = some (vi (bz (BE (fun e => hb o e ∧ r (47 + (10 * tg + e)) = 12) (r 1)))) ∧ X' = X) := by
  refine Ct.of (by decide +kernel) [some (.ref (ad 0)), some (vi o), some (vi tg), none, none] rfl (Nat.le_of_ble_eq_true rfl) (fun φ hF hR => ?_)
  have hM := hM.g
  have g0 := hG.2.1
  refine j_iconst hF dX8_isOneFull_0 (j_istore_n hF dX8_isOneFull_1 (Nat.le_of_ble_eq_true rfl) rfl (j_iconst hF dX8_isOneFull_2 (j_istore hF dX8_isOneFull_3 (Nat.le_of_ble_eq_true rfl) rfl ?_)))
  have LL : ∀ (n : Nat) (k : Int), (r 1 - k).toNat < n → 0 ≤ k ∧ k ≤ r 1 → Jd φ X 0 0 5 [some (.ref (ad 0)), some (vi o), some (vi tg), some (vi (bz (BE (fun e => hb o e ∧ r (47 + (10 * tg + e)) = 12) k))), some (vi k)] [] := by
    intro n
    induction n with
    | zero => intro k hfu; exact absurd hfu (by omega)
    | succ n ih =>
      intro k hfu hk
      refine j_iload hF dX8_isOneFull_5 rfl (j_aload_n hF dX8_isOneFull_7 rfl (j_get hF hM.1.1 fl_RX8_8 dX8_isOneFull_8 rfl (j_iconst hF dX8_isOneFull_11 (j_iald hF hM.1.2.1 dX8_isOneFull_12 (by omega) (fun ra1 rb1 => ?_)))))
      refine j_icmp_ge hF 51 dX8_isOneFull_13 (by decide) (by omega) (fun c13 => ?_) (fun c13 => ?_)
      ·
        refine j_iload_n hF dX8_isOneFull_51 rfl (j_zret hF hR (bz_01 _) dX8_isOneFull_52 (by omega) (by omega) ?_)
        have ek : k = r 1 := by omega
        rw [ek]
        exact ⟨rfl, rfl⟩
      ·
        refine j_iload_n hF dX8_isOneFull_16 rfl (j_b_ne hF 39 dX8_isOneFull_17 (by decide) (fun cb => ?_) (fun cb => ?_))
        ·
          refine j_iconst hF dX8_isOneFull_39 (j_goto hF 44 dX8_isOneFull_40 (by decide) (j_istore_n hF dX8_isOneFull_44 (Nat.le_of_ble_eq_true rfl) rfl (j_iinc hF dX8_isOneFull_45 rfl (Nat.le_of_ble_eq_true rfl) rfl (j_goto hF 5 dX8_isOneFull_48 (by decide) ?_))))
          have hi := ih (k + 1) (by omega) (by omega)
          rw [bz_t (by first | exact BE.t cb | exact BE.n (by omega) (by first | exact ⟨c26, c36⟩ | exact (fun h => c26 h.1) | exact (fun h => c36 h.2)))] at hi
          exact hi
        ·
          refine j_iload_n hF dX8_isOneFull_20 rfl (j_iload hF dX8_isOneFull_21 rfl (j_callS hF (c_X8_has (by omega) (by omega)) ms_X8_has mt_X8_has lk_RX8_125 dX8_isOneFull_23 rfl rfl rfl (by simp [Value.category]) ⟨⟨(Nat.le_of_ble_eq_true rfl), (Nat.le_of_ble_eq_true rfl)⟩, by omega, by omega⟩ (fun v2 X2 hp2 hE2 => ?_)))
          obtain ⟨rfl, he2⟩ := hp2; obtain rfl := he2.symm
          refine j_b_eq hF 43 dX8_isOneFull_26 (by decide) (fun c26 => ?_) (fun c26 => ?_)
          ·
            refine j_iconst hF dX8_isOneFull_43 (j_istore_n hF dX8_isOneFull_44 (Nat.le_of_ble_eq_true rfl) rfl (j_iinc hF dX8_isOneFull_45 rfl (Nat.le_of_ble_eq_true rfl) rfl (j_goto hF 5 dX8_isOneFull_48 (by decide) ?_)))
            have hi := ih (k + 1) (by omega) (by omega)
            rw [bz_f (BE.f cb (by first | exact ⟨c26, c36⟩ | exact (fun h => c26 h.1) | exact (fun h => c36 h.2)))] at hi
            exact hi
          ·
            refine j_aload_n hF dX8_isOneFull_29 rfl (j_iload_n hF dX8_isOneFull_30 rfl (j_iload hF dX8_isOneFull_31 rfl (j_callV hF (c_X8_isFullLine hM.1 (by omega) (by omega)) ms_X8_isFullLine mv_X8_isFullLine lk_RX8_114 dX8_isOneFull_33 hM.1.1 rfl rfl rfl (by simp [Value.category]) ⟨⟨(Nat.le_of_ble_eq_true rfl), (Nat.le_of_ble_eq_true rfl)⟩, by omega, by omega⟩ (fun v3 X3 hp3 hE3 => ?_))))
            obtain ⟨rfl, he3⟩ := hp3; obtain rfl := he3.symm
            refine j_b_eq hF 43 dX8_isOneFull_36 (by decide) (fun c36 => ?_) (fun c36 => ?_)
            ·
              refine j_iconst hF dX8_isOneFull_43 (j_istore_n hF dX8_isOneFull_44 (Nat.le_of_ble_eq_true rfl) rfl (j_iinc hF dX8_isOneFull_45 rfl (Nat.le_of_ble_eq_true rfl) rfl (j_goto hF 5 dX8_isOneFull_48 (by decide) ?_)))
              have hi := ih (k + 1) (by omega) (by omega)
              rw [bz_f (BE.f cb (by first | exact ⟨c26, c36⟩ | exact (fun h => c26 h.1) | exact (fun h => c36 h.2)))] at hi
              exact hi
            ·
              refine j_iconst hF dX8_isOneFull_39 (j_goto hF 44 dX8_isOneFull_40 (by decide) (j_istore_n hF dX8_isOneFull_44 (Nat.le_of_ble_eq_true rfl) rfl (j_iinc hF dX8_isOneFull_45 rfl (Nat.le_of_ble_eq_true rfl) rfl (j_goto hF 5 dX8_isOneFull_48 (by decide) ?_))))
              have hi := ih (k + 1) (by omega) (by omega)
              rw [bz_t (by first | exact BE.t cb | exact BE.n (by omega) (by first | exact ⟨c26, c36⟩ | exact (fun h => c26 h.1) | exact (fun h => c36 h.2)))] at hi
              exact hi
  have h0 := LL ((r 1 : Int).toNat + 1) 0 (by omega) (by omega)
  rw [bz_f (BE.z _)] at h0
  exact h0

set_option maxRecDepth 100000 in
set_option maxHeartbeats 4000000 in
theorem c_X8_violates {X : Hp} {ad : Nat → Nat} {r pf : Int → Int} {sv : Int} {er sn lw rc wt : Int → Int} {wg : Int} {ls ac fi : Int → Int} {as : Int} {hh : Int64} (hM : MM X ad r pf sv er sn lw rc wt wg ls ac fi as hh) {nd t : Int} (hn : 0 ≤ nd ∧ nd < 6) (ht : 0 ≤ t ∧ t ≤ 999) : Ct yX8_violates cX8_violates 5 (some .boolean) 1 21 [.ref (ad 0), vi nd, vi t] X 0 0 (fun rv X' => rv = some (vi (bz (BE (fun e => r (359 + 1000 * nd + e) = 1 ∧ t / 100 ≤ e / 100 ∧ t % 100 ≤ e % 100) (1000)))) ∧ X' = X) := by
  refine Ct.of (by decide +kernel) [some (.ref (ad 0)), some (vi nd), some (vi t), none, none] rfl (Nat.le_of_ble_eq_true rfl) (fun φ hF hR => ?_)
  have hM := hM.g
  refine j_iconst hF dX8_violates_0 (j_istore_n hF dX8_violates_1 (Nat.le_of_ble_eq_true rfl) rfl (j_iconst hF dX8_violates_2 (j_istore hF dX8_violates_3 (Nat.le_of_ble_eq_true rfl) rfl ?_)))
  have LL : ∀ (n : Nat) (k : Int), (1000 - k).toNat < n → 0 ≤ k ∧ k ≤ 1000 → Jd φ X 0 0 5 [some (.ref (ad 0)), some (vi nd), some (vi t), some (vi (bz (BE (fun e => r (359 + 1000 * nd + e) = 1 ∧ t / 100 ≤ e / 100 ∧ t % 100 ≤ e % 100) k))), some (vi k)] [] := by
    intro n
    induction n with
    | zero => intro k hfu; exact absurd hfu (by omega)
    | succ n ih =>
      intro k hfu hk
      refine j_iload hF dX8_violates_5 rfl (j_sipush hF dX8_violates_7 (by decide) (j_icmp_ge hF 59 dX8_violates_10 (by decide) (by omega) (fun c10 => ?_) (fun c10 => ?_)))
      ·
        refine j_iload_n hF dX8_violates_59 rfl (j_zret hF hR (bz_01 _) dX8_violates_60 (by omega) (by omega) ?_)
        have ek : k = 1000 := by omega
        rw [ek]
        exact ⟨rfl, rfl⟩
      ·
        refine j_iload_n hF dX8_violates_13 rfl (j_b_ne hF 47 dX8_violates_14 (by decide) (fun cb => ?_) (fun cb => ?_))
        ·
          refine j_iconst hF dX8_violates_47 (j_goto hF 52 dX8_violates_48 (by decide) (j_istore_n hF dX8_violates_52 (Nat.le_of_ble_eq_true rfl) rfl (j_iinc hF dX8_violates_53 rfl (Nat.le_of_ble_eq_true rfl) rfl (j_goto hF 5 dX8_violates_56 (by decide) ?_))))
          have hi := ih (k + 1) (by omega) (by omega)
          rw [bz_t (by first | exact BE.t cb | exact BE.n (by omega) (by first | exact ⟨c35, c44⟩ | exact (fun h => c35 h.1) | exact (fun h => c44 h.2)))] at hi
          exact hi
        ·
          refine j_aload_n hF dX8_violates_17 rfl (j_get hF hM.1.1 fl_RX8_8 dX8_violates_18 rfl (j_sipush hF dX8_violates_21 (by decide) (j_sipush hF dX8_violates_24 (by decide) (j_iload_n hF dX8_violates_27 rfl (j_imul hF dX8_violates_28 ?_)))))
          refine j_iadd hF dX8_violates_29 (j_iload hF dX8_violates_30 rfl (j_iadd hF dX8_violates_32 (j_iald hF hM.1.2.1 dX8_violates_33 (by omega) (fun ra1 rb1 => ?_))))
          refine j_iconst hF dX8_violates_34 (j_icmp_ne hF 51 dX8_violates_35 (by decide) (by omega) (fun c35 => ?_) (fun c35 => ?_))
          ·
            refine j_iconst hF dX8_violates_51 (j_istore_n hF dX8_violates_52 (Nat.le_of_ble_eq_true rfl) rfl (j_iinc hF dX8_violates_53 rfl (Nat.le_of_ble_eq_true rfl) rfl (j_goto hF 5 dX8_violates_56 (by decide) ?_)))
            have hi := ih (k + 1) (by omega) (by omega)
            rw [bz_f (BE.f cb (by first | exact ⟨c35, c44⟩ | exact (fun h => c35 h.1) | exact (fun h => c44 h.2)))] at hi
            exact hi
          ·
            refine j_iload_n hF dX8_violates_38 rfl (j_iload hF dX8_violates_39 rfl (j_callS hF (c_X8_atMost (by omega) (by omega)) ms_X8_atMost mt_X8_atMost lk_RX8_128 dX8_violates_41 rfl rfl rfl (by simp [Value.category]) ⟨⟨(Nat.le_of_ble_eq_true rfl), (Nat.le_of_ble_eq_true rfl)⟩, by omega, by omega⟩ (fun v2 X2 hp2 hE2 => ?_)))
            obtain ⟨rfl, he2⟩ := hp2; obtain rfl := he2.symm
            refine j_b_eq hF 51 dX8_violates_44 (by decide) (fun c44 => ?_) (fun c44 => ?_)
            ·
              refine j_iconst hF dX8_violates_51 (j_istore_n hF dX8_violates_52 (Nat.le_of_ble_eq_true rfl) rfl (j_iinc hF dX8_violates_53 rfl (Nat.le_of_ble_eq_true rfl) rfl (j_goto hF 5 dX8_violates_56 (by decide) ?_)))
              have hi := ih (k + 1) (by omega) (by omega)
              rw [bz_f (BE.f cb (by first | exact ⟨c35, c44⟩ | exact (fun h => c35 h.1) | exact (fun h => c44 h.2)))] at hi
              exact hi
            ·
              refine j_iconst hF dX8_violates_47 (j_goto hF 52 dX8_violates_48 (by decide) (j_istore_n hF dX8_violates_52 (Nat.le_of_ble_eq_true rfl) rfl (j_iinc hF dX8_violates_53 rfl (Nat.le_of_ble_eq_true rfl) rfl (j_goto hF 5 dX8_violates_56 (by decide) ?_))))
              have hi := ih (k + 1) (by omega) (by omega)
              rw [bz_t (by first | exact BE.t cb | exact BE.n (by omega) (by first | exact ⟨c35, c44⟩ | exact (fun h => c35 h.1) | exact (fun h => c44 h.2)))] at hi
              exact hi
  have h0 := LL ((1000 : Int).toNat + 1) 0 (by omega) (by omega)
  rw [bz_f (BE.z _)] at h0
  exact h0
