theorem m_put_n2 {r : Int → Int} {w e t i : Int} (hm : 0 ≤ r (47 + (10 * w + e)) ∧ r (47 + (10 * w + e)) < 12) (hw : 0 ≤ w ∧ w ≤ 1) (he : 0 ≤ e ∧ e < 10) (h2 : i < 67 ∨ 307 ≤ i) (h3 : i ≠ 47 + (10 * w + e)) : m_put r w e t i = r i := by
  simp only [m_put]
  rw [fu_n h3, fu_n (by omega)]
theorem m_put_c {r : Int → Int} {w e t : Int} (hm : 0 ≤ r (47 + (10 * w + e)) ∧ r (47 + (10 * w + e)) < 12) (hw : 0 ≤ w ∧ w ≤ 1) (he : 0 ≤ e ∧ e < 10) : m_put r w e t (47 + (10 * w + e)) = r (47 + (10 * w + e)) + 1 := by
  simp only [m_put]
  rw [fu_s, fu_n (by omega)]
theorem RI.put {r : Int → Int} {N w e t : Int} (h : RI r N) (hm : 0 ≤ r (47 + (10 * w + e)) ∧ r (47 + (10 * w + e)) < 12) (hw : 0 ≤ w ∧ w ≤ 1) (he : 0 ≤ e ∧ e < 10) : RI (m_put r w e t) N := by
  refine ⟨fun i a b => ?_, ?_, ?_⟩
  · rw [m_put_n2 hm hw he (by omega) (by omega)]; exact h.1 i a b
  · rw [m_put_n2 hm hw he (by omega) (by omega)]; exact h.2.1
  · rw [m_put_n2 hm hw he (by omega) (by omega)]; exact h.2.2
/-- what the messages of one event leave -/
theorem m_pa_inv {r : Int → Int} {N w o tg t E : Int} (h : RI r N) (hm : RM2 r) (hN : N + 10 < 8192) (hw : 0 ≤ w ∧ w ≤ 1) (htg : 0 ≤ tg ∧ tg ≤ 1) (ht : 0 ≤ t ∧ t ≤ 999) (hE : E ≤ 10) (hf : ∀ e, 0 ≤ e → e < E → hb o e → r (47 + (10 * tg + e)) < 12) : ∀ n : Nat, (n : Int) ≤ E →
    RI (m_pa w o tg t n r) (N + n) ∧ (∀ i, i ≠ 2 → (i < 47 ∨ (307 ≤ i ∧ i < 357) ∨ (358 < i ∧ i < 6359)) → m_pa w o tg t n r i = r i) ∧ (∀ e, (n : Int) ≤ e → e < 10 → m_pa w o tg t n r (47 + (10 * tg + e)) = r (47 + (10 * tg + e))) ∧ RM2 (m_pa w o tg t n r)
  | 0, _ => ⟨by simpa [m_pa] using h, fun i _ _ => rfl, fun e _ _ => rfl, hm⟩
  | n + 1, hn => by
    obtain ⟨i1, i2, i3, i4⟩ := m_pa_inv h hm hN hw htg ht hE hf n (by omega)
    by_cases hb1 : o / pw n % 2 = 1
    · have e1 : m_pa w o tg t (n + 1) r = m_upd (m_put (m_pa w o tg t n r) tg n t) w (6 + n) t 1 := by simp only [m_pa, hb1, if_true]
      have c1 := i3 n (by omega) (by omega)
      have c2 := hf n (by omega) (by omega) hb1
      have c3 := i4 (10 * tg + n) (by omega) (by omega)
      have hm1 : 0 ≤ m_pa w o tg t n r (47 + (10 * tg + n)) ∧ m_pa w o tg t n r (47 + (10 * tg + n)) < 12 := by omega
      have r1 := i1.put (t := t) hm1 htg (by omega)
      have r2 := r1.up (c := 1) (t := t) (p := 6 + n) (by omega) hw (by omega) ht (Or.inl rfl)
      rw [e1]
      refine ⟨by rw [show N + ((n + 1 : Nat) : Int) = N + n + 1 by omega]; exact r2, fun i a b => ?_, fun e a b => ?_, fun l a b => ?_⟩
      · rw [m_upd_lo r1 hw (by omega) ht a (by omega), m_put_n2 hm1 htg (by omega) (by omega) (by omega), i2 i a b]
      · rw [m_upd_lo r1 hw (by omega) ht (by omega) (by omega), m_put_n2 hm1 htg (by omega) (by omega) (by omega), i3 e (by omega) b]
      · rw [m_upd_lo r1 hw (by omega) ht (by omega) (by omega)]
        by_cases hl : 47 + l = 47 + (10 * tg + (n : Int))
        · rw [hl, m_put_c hm1 htg (by omega)]; omega
        · rw [m_put_n2 hm1 htg (by omega) (by omega) hl]; exact i4 l a b
    · have e1 : m_pa w o tg t (n + 1) r = m_pa w o tg t n r := by simp only [m_pa, hb1, if_false]
      rw [e1]
      refine ⟨⟨fun i a b => ?_, ?_, ?_⟩, i2, fun e a b => i3 e (by omega) b, i4⟩
      · have := i1.1 i a b; omega
      · have := i1.2.1; omega
      · have := i1.2.2; omega
/-! what a call answers, and the state that it leaves -/
abbrev St : Type := (Int → Int) × (Int → Int) × Int × (Int → Int)
def MX (X0 X : Hp) (ad : Nat → Nat) (σ : St) : Prop := ∃ (sn lw rc wt : Int → Int) (wg : Int) (ls ac fi : Int → Int) (as : Int) (hh : Int64), MG X0 X ad σ.1 σ.2.1 σ.2.2.1 σ.2.2.2 sn lw rc wt wg ls ac fi as hh
theorem MX.of {X0 X : Hp} {ad : Nat → Nat} {r pf : Int → Int} {sv : Int} {er sn lw rc wt : Int → Int} {wg : Int} {ls ac fi : Int → Int} {as : Int} {hh : Int64} (h : MG X0 X ad r pf sv er sn lw rc wt wg ls ac fi as hh) : MX X0 X ad (r, pf, sv, er) := ⟨_, _, _, _, _, _, _, _, _, _, h⟩
theorem PU {X0 X : Hp} {ad : Nat → Nat} {Z : Int × St} {a : Int} {σ : St} (h : Z = (a, σ)) (hM : MX X0 X ad σ) : some (vi a) = some (vi Z.1) ∧ MX X0 X ad Z.2 := by
  subst h; exact ⟨rfl, hM⟩
def sp_fail (σ : St) (c : Int) : Int × St := (c, σ.1, σ.2.1, σ.2.2.1, fe σ.2.2.2 c)
/-- the state behind a save and a new row -/
def sp_new (σ : St) (r' : Int → Int) : St := (r', sv_p σ.1 σ.2.1 σ.2.2.1, sv_n σ.2.2.1, σ.2.2.2)
def m_asked (r : Int → Int) (w n : Int) : Int := cf (fun i => if r (309 + (12 * w + i)) = n then 1 else 0) (r (307 + w)).toNat
noncomputable def sp_kind (σ : St) (e : Int) : Int × St := pif (0 ≤ e ∧ e ≤ σ.1 1 - 1) (m_kind σ.1 e, σ) (sp_fail σ (-2))
noncomputable def sp_move (σ : St) (e t : Int) : Int × St := pif ((0 ≤ e ∧ e ≤ σ.1 1 - 1) ∧ m_time σ.1 (6 + e) t) (m_moved σ.1 e t, σ) (sp_fail σ (-2))
noncomputable def sp_errorCount (σ : St) (c : Int) : Int × St := pif (-5 ≤ c ∧ c ≤ -2) (σ.2.2.2 (-2 - c), σ) (sp_fail σ (-2))
noncomputable def sp_pending (σ : St) (w : Int) : Int × St := pif (0 ≤ w ∧ w ≤ 1) (σ.1 (357 + w), σ) (sp_fail σ (-2))
noncomputable def sp_messages (σ : St) (w e : Int) : Int × St := pif ((0 ≤ w ∧ w ≤ 1) ∧ 0 ≤ e ∧ e ≤ σ.1 1 - 1) (σ.1 (47 + (10 * w + e)), σ) (sp_fail σ (-2))
noncomputable def sp_messageTime (σ : St) (w e i : Int) : Int × St := pif (((0 ≤ w ∧ w ≤ 1) ∧ 0 ≤ e ∧ e ≤ σ.1 1 - 1) ∧ 0 ≤ i) (if i < σ.1 (47 + (10 * w + e)) then σ.1 (67 + 12 * (10 * w + e) + i) else -1, σ) (sp_fail σ (-2))
noncomputable def sp_requests (σ : St) (w n : Int) : Int × St := pif ((0 ≤ w ∧ w ≤ 1) ∧ 0 ≤ n ∧ n ≤ σ.1 0 - 1) (m_asked σ.1 w n, σ) (sp_fail σ (-2))
noncomputable def sp_count (σ : St) (w p t : Int) : Int × St := pif (((0 ≤ w ∧ w ≤ 1) ∧ m_place σ.1 p) ∧ m_time σ.1 p t) (1000 + σ.1 (6359 + 1000 * (16 * w + p) + t), σ) (sp_fail σ (-2))
noncomputable def sp_send (σ : St) (e w : Int) : Int × St := pif ((0 ≤ e ∧ e ≤ σ.1 1 - 1) ∧ 0 ≤ w ∧ w ≤ 1) (pif (σ.1 (11 + σ.1 (17 + e)) < 0) (sp_fail σ (-3)) (pif (σ.1 (47 + (10 * w + e)) = 12) (sp_fail σ (-4)) (100 * σ.1 (11 + σ.1 (17 + e)), sp_new σ (m_upd (m_put σ.1 w e (100 * σ.1 (11 + σ.1 (17 + e)))) 0 (6 + e) (100 * σ.1 (11 + σ.1 (17 + e))) 1)))) (sp_fail σ (-2))
noncomputable def sp_advance (σ : St) (n : Int) : Int × St := pif (0 ≤ n ∧ n ≤ σ.1 0 - 1) (pif (σ.1 (11 + n) < 0 ∨ σ.1 (11 + n) = 9) (sp_fail σ (-3)) (σ.1 (11 + n) + 1, sp_new σ (m_upd (m_upd (fu σ.1 (11 + n) (σ.1 (11 + n) + 1)) 0 n (100 * (σ.1 (11 + n) + 1)) 1) 0 n (100 * σ.1 (11 + n)) (-1)))) (sp_fail σ (-2))
noncomputable def sp_close (σ : St) (n : Int) : Int × St := pif (0 ≤ n ∧ n ≤ σ.1 0 - 1) (pif (σ.1 (11 + n) < 0) (sp_fail σ (-3)) (σ.1 (11 + n), sp_new σ (m_upd (fu σ.1 (11 + n) (-2)) 0 n (100 * σ.1 (11 + n)) (-1)))) (sp_fail σ (-2))
theorem RI.fu {r : Int → Int} {N i v : Int} (h : RI r N) (hi : i < 357 ∨ (358 < i ∧ i < 6359)) : RI (fu r i v) N := by
  refine ⟨fun j a b => ?_, ?_, ?_⟩
  · rw [fu_n (by omega)]; exact h.1 j a b
  · rw [fu_n (by omega)]; exact h.2.1
  · rw [fu_n (by omega)]; exact h.2.2
def sp_delivered (σ : St) : Int × St := (σ.1 3, σ)
def sp_violations (σ : St) : Int × St := (σ.1 4, σ)
theorem m_place_rg {r : Int → Int} {p : Int} (hG : GI r) (h : m_place r p) : 0 ≤ p ∧ p < 16 := by
  have g0 := hG.1
  have g1 := hG.2.1
  unfold m_place at h
  omega
/-- a new node -/
def m_node (r : Int → Int) (d i : Int) : Int → Int :=
  fu (fu (fu (fu (fu r (5 + r 0) d) (11 + r 0) (if i = 1 then 0 else -1)) (6359 + 1000 * (16 * 0 + r 0) + 0) (r (6359 + 1000 * (16 * 0 + r 0) + 0) + i)) (6359 + 1000 * (16 * 1 + r 0) + 0) (r (6359 + 1000 * (16 * 1 + r 0) + 0) + i)) 0 (r 0 + 1)
noncomputable def sp_addNode (σ : St) (d i : Int) : Int × St := pif (((0 ≤ d ∧ d ≤ 2) ∧ 0 ≤ i ∧ i ≤ 1) ∧ ¬ (i = 1 ∧ d ≠ 0)) (pif (σ.1 2 = 1) (sp_fail σ (-3)) (pif (σ.1 0 = 6) (sp_fail σ (-4)) (σ.1 0, sp_new σ (m_node σ.1 d i)))) (sp_fail σ (-2))
/-- the numbers of a row, between calls -/
def EO (r : Int → Int) : Prop := ∀ n, 0 ≤ n → n < 6 → -2 ≤ r (11 + n) ∧ r (11 + n) ≤ 9
def AS (r : Int → Int) : Prop := ∀ w, 0 ≤ w → w < 2 → 0 ≤ r (307 + w) ∧ r (307 + w) ≤ 12
set_option maxRecDepth 100000 in
set_option maxHeartbeats 4000000 in
theorem c_X8_putsAll {X : Hp} {ad : Nat → Nat} {r pf : Int → Int} {sv : Int} {er sn lw rc wt : Int → Int} {wg : Int} {ls ac fi : Int → Int} {as : Int} {hh : Int64} (hM : MM X ad r pf sv er sn lw rc wt wg ls ac fi as hh) {w o tg t N : Int} (hG : GI r) (hI : RI r N) (hm : RM2 r) (hN : N + 10 < 8192) (hw : 0 ≤ w ∧ w ≤ 1) (ho : 0 ≤ o ∧ o < 1024) (htg : 0 ≤ tg ∧ tg ≤ 1) (ht : 0 ≤ t ∧ t ≤ 999) (hf : ∀ e, 0 ≤ e → e < r 1 → hb o e → r (47 + (10 * tg + e)) < 12) : Ct yX8_putsAll cX8_putsAll 6 none 2 48 [.ref (ad 0), vi w, vi o, vi tg, vi t] X 0 0 (fun rv X' => rv = none ∧ MG X X' ad (m_pa w o tg t (r 1).toNat r) pf sv er sn lw rc wt wg ls ac fi as hh) := by
  refine Ct.of (by decide +kernel) [some (.ref (ad 0)), some (vi w), some (vi o), some (vi tg), some (vi t), none] rfl (Nat.le_of_ble_eq_true rfl) (fun φ hF hR => ?_)
  have hM := hM.g
  have g0 := hG.2.1
  refine j_iconst hF dX8_putsAll_0 (j_istore hF dX8_putsAll_1 (Nat.le_of_ble_eq_true rfl) rfl ?_)
  have LL : ∀ (n : Nat) (Y : Hp) (k : Int), (r 1 - k).toNat < n → 0 ≤ k ∧ k ≤ r 1 → MG X Y ad (m_pa w o tg t k.toNat r) pf sv er sn lw rc wt wg ls ac fi as hh → Jd φ Y 0 0 3 [some (.ref (ad 0)), some (vi w), some (vi o), some (vi tg), some (vi t), some (vi k)] [] := by
    intro n
    induction n with
    | zero => intro Y k hfu; exact absurd hfu (by omega)
    | succ n ih =>
      intro Y k hfu hk hM
      obtain ⟨i1, i2, i3, i4⟩ := m_pa_inv hI hm hN hw htg ht g0.2 hf k.toNat (by omega)
      have c1 := i3 k (by omega)
      have c2 := hf k hk.1
      have c3 := i4 (10 * tg + k) (by omega)
      refine j_iload hF dX8_putsAll_3 rfl (j_aload_n hF dX8_putsAll_5 rfl (j_get hF hM.1.1 fl_RX8_8 dX8_putsAll_6 rfl (j_iconst hF dX8_putsAll_9 (j_iald hF hM.1.2.1 dX8_putsAll_10 (by omega) (fun ra1 rb1 => ?_)))))
      have e0 : m_pa w o tg t k.toNat r 1 = r 1 := i2 1 (by omega) (by omega)
      refine j_icmp_ge hF 51 dX8_putsAll_11 (by decide) (by omega) (fun c11 => ?_) (fun c11 => ?_)
      ·
        refine j_vret hF hR dX8_putsAll_51 (by omega) (by omega) ?_
        have ek : k = r 1 := by omega
        subst ek
        exact ⟨rfl, hM⟩
      ·
        refine j_iload_n hF dX8_putsAll_14 rfl (j_iload hF dX8_putsAll_15 rfl (j_callS hF (c_X8_has (by omega) (by omega)) ms_X8_has mt_X8_has lk_RX8_125 dX8_putsAll_17 rfl rfl rfl (by simp [Value.category]) ⟨⟨(Nat.le_of_ble_eq_true rfl), (Nat.le_of_ble_eq_true rfl)⟩, by omega, by omega⟩ (fun v2 X2 hp2 hE2 => ?_)))
        obtain ⟨rfl, he2⟩ := hp2; obtain rfl := he2.symm
        refine j_b_eq hF 45 dX8_putsAll_20 (by decide) (fun c20 => ?_) (fun c20 => ?_)
        ·
          refine j_iinc hF dX8_putsAll_45 rfl (Nat.le_of_ble_eq_true rfl) rfl (j_goto hF 3 dX8_putsAll_48 (by decide) ?_)
          have et : (k + 1).toNat = k.toNat + 1 := by omega
          have ek : ((k.toNat : Nat) : Int) = k := by omega
          refine ih _ (k + 1) (by omega) (by omega) ?_
          rw [et]
          simp only [m_pa]
          rw [ek]
          first | (rw [if_pos (show o / pw k % 2 = 1 from c20)]; exact hM) | (rw [if_neg (show ¬ o / pw k % 2 = 1 from c20)]; exact hM)
        ·
          have q1 := c1 (by omega)
          have q2 := c2 (by omega) c20
          have q3 := c3 (by omega)
          refine j_aload_n hF dX8_putsAll_23 rfl (j_iload_n hF dX8_putsAll_24 rfl (j_iload hF dX8_putsAll_25 rfl (j_iload hF dX8_putsAll_27 rfl (j_callV hF (c_X8_puts hM.1 (by omega) (by omega) (by omega) (by omega)) ms_X8_puts mv_X8_puts lk_RX8_117 dX8_putsAll_29 hM.1.1 rfl rfl rfl (by simp [Value.category]) ⟨⟨(Nat.le_of_ble_eq_true rfl), (Nat.le_of_ble_eq_true rfl)⟩, by omega, by omega⟩ (fun v3 X3 hp3 hE3 => ?_)))))
          obtain ⟨rfl, hM1⟩ := hp3
          have hM := hM.tr hM1
          refine j_aload_n hF dX8_putsAll_32 rfl (j_iload_n hF dX8_putsAll_33 rfl (j_bipush hF dX8_putsAll_34 (by decide) (j_iload hF dX8_putsAll_36 rfl (j_iadd hF dX8_putsAll_38 (j_iload hF dX8_putsAll_39 rfl ?_)))))
          refine j_iconst hF dX8_putsAll_41 (j_callV hF (c_X8_updates (N := N + k) hM.1 (by omega) (by omega) (by omega) (by omega) (by omega) (by rw [show N + k = N + (k.toNat : Int) by omega]; exact i1.put (by omega) htg (by omega))) ms_X8_updates mv_X8_updates lk_RX8_121 dX8_putsAll_42 hM.1.1 rfl rfl rfl (by simp [Value.category]) ⟨⟨(Nat.le_of_ble_eq_true rfl), (Nat.le_of_ble_eq_true rfl)⟩, by omega, by omega⟩ (fun v4 X4 hp4 hE4 => ?_))
          obtain ⟨rfl, hM1⟩ := hp4
          have hM := hM.tr hM1
          refine j_iinc hF dX8_putsAll_45 rfl (Nat.le_of_ble_eq_true rfl) rfl (j_goto hF 3 dX8_putsAll_48 (by decide) ?_)
          have et : (k + 1).toNat = k.toNat + 1 := by omega
          have ek : ((k.toNat : Nat) : Int) = k := by omega
          refine ih _ (k + 1) (by omega) (by omega) ?_
          rw [et]
          simp only [m_pa]
          rw [ek]
          first | (rw [if_pos (show o / pw k % 2 = 1 from c20)]; exact hM) | (rw [if_neg (show ¬ o / pw k % 2 = 1 from c20)]; exact hM)
  exact LL ((r 1).toNat + 1) _ 0 (by omega) (by omega) hM

set_option maxRecDepth 100000 in
set_option maxHeartbeats 4000000 in
theorem c_X8_takes {X : Hp} {ad : Nat → Nat} {r pf : Int → Int} {sv : Int} {er sn lw rc wt : Int → Int} {wg : Int} {ls ac fi : Int → Int} {as : Int} {hh : Int64} (hM : MM X ad r pf sv er sn lw rc wt wg ls ac fi as hh) {l : Int} (hl : 0 ≤ l ∧ l < 20) (hm : 1 ≤ r (47 + l) ∧ r (47 + l) ≤ 12) : Ct yX8_takes cX8_takes 4 (some .int) 0 0 [.ref (ad 0), vi l] X 0 0 (fun rv X' => rv = some (vi (r (67 + 12 * l))) ∧ MG X X' ad (m_take r l) pf sv er sn lw rc wt wg ls ac fi as hh) := by
  refine Ct.of (by decide +kernel) [some (.ref (ad 0)), some (vi l), none, none] rfl (Nat.le_of_ble_eq_true rfl) (fun φ hF hR => ?_)
  have hM := hM.g
  refine j_aload_n hF dX8_takes_0 rfl (j_get hF hM.1.1 fl_RX8_8 dX8_takes_1 rfl (j_bipush hF dX8_takes_4 (by decide) (j_bipush hF dX8_takes_6 (by decide) (j_iload_n hF dX8_takes_8 rfl (j_imul hF dX8_takes_9 ?_)))))
  refine j_iadd hF dX8_takes_10 (j_iald hF hM.1.2.1 dX8_takes_11 (by omega) (fun ra1 rb1 => ?_))
  refine j_istore_n hF dX8_takes_12 (Nat.le_of_ble_eq_true rfl) rfl (j_aload_n hF dX8_takes_13 rfl (j_get hF hM.1.1 fl_RX8_8 dX8_takes_14 rfl (j_bipush hF dX8_takes_17 (by decide) (j_iload_n hF dX8_takes_19 rfl (j_iadd hF dX8_takes_20 ?_)))))
  refine j_dup2 hF dX8_takes_21 rfl rfl (j_iald hF hM.1.2.1 dX8_takes_22 (by omega) (fun ra2 rb2 => ?_))
  refine j_iconst hF dX8_takes_23 (j_isub hF dX8_takes_24 (j_iast hF hM.1.2.1 dX8_takes_25 (by omega) (by omega) (j_nm (fun X3 eX3 => ?_))))
  have hM := hM.u_r eX3
  refine j_iconst hF dX8_takes_26 (j_istore_n hF dX8_takes_27 (Nat.le_of_ble_eq_true rfl) rfl ?_)
  have LL : ∀ (n : Nat) (Y : Hp) (k : Int), (r (47 + l) - 1 - k).toNat < n → 0 ≤ k ∧ k ≤ r (47 + l) - 1 → MG X Y ad (m_tk (fu r (47 + l) (r (47 + l) - 1)) l k) pf sv er sn lw rc wt wg ls ac fi as hh → Jd φ Y 0 0 28 [some (.ref (ad 0)), some (vi l), some (vi (r (67 + 12 * l))), some (vi k)] [] := by
    intro n
    induction n with
    | zero => intro Y k hfu; exact absurd hfu (by omega)
    | succ n ih =>
      intro Y k hfu hk hM
      refine j_iload_n hF dX8_takes_28 rfl (j_aload_n hF dX8_takes_29 rfl (j_get hF hM.1.1 fl_RX8_8 dX8_takes_30 rfl (j_bipush hF dX8_takes_33 (by decide) (j_iload_n hF dX8_takes_35 rfl (j_iadd hF dX8_takes_36 ?_)))))
      refine j_iald hF hM.1.2.1 dX8_takes_37 (by omega) (fun ra1 rb1 => ?_)
      have e0 : m_tk (fu r (47 + l) (r (47 + l) - 1)) l k (47 + l) = r (47 + l) - 1 := by simp only [m_tk]; rw [if_neg (by omega), fu_s]
      refine j_icmp_ge hF 77 dX8_takes_38 (by decide) (by omega) (fun c38 => ?_) (fun c38 => ?_)
      ·
        refine j_iload_n hF dX8_takes_77 rfl (j_iret hF hR dX8_takes_78 (by omega) (by omega) ?_)
        have ek : k = r (47 + l) - 1 := by omega
        subst ek
        exact ⟨rfl, hM⟩
      ·
        refine j_aload_n hF dX8_takes_41 rfl (j_get hF hM.1.1 fl_RX8_8 dX8_takes_42 rfl (j_bipush hF dX8_takes_45 (by decide) (j_bipush hF dX8_takes_47 (by decide) (j_iload_n hF dX8_takes_49 rfl (j_imul hF dX8_takes_50 ?_)))))
        refine j_iadd hF dX8_takes_51 (j_iload_n hF dX8_takes_52 rfl (j_iadd hF dX8_takes_53 (j_aload_n hF dX8_takes_54 rfl (j_get hF hM.1.1 fl_RX8_8 dX8_takes_55 rfl (j_bipush hF dX8_takes_58 (by decide) ?_)))))
        refine j_bipush hF dX8_takes_60 (by decide) (j_iload_n hF dX8_takes_62 rfl (j_imul hF dX8_takes_63 (j_iadd hF dX8_takes_64 (j_iload_n hF dX8_takes_65 rfl (j_iadd hF dX8_takes_66 ?_)))))
        refine j_iconst hF dX8_takes_67 (j_iadd hF dX8_takes_68 (j_iald hF hM.1.2.1 dX8_takes_69 (by omega) (fun ra2 rb2 => ?_)))
        refine j_iast hF hM.1.2.1 dX8_takes_70 (by omega) (by omega) (j_nm (fun X3 eX3 => ?_))
        have hM := hM.u_r eX3
        refine j_iinc hF dX8_takes_71 rfl (Nat.le_of_ble_eq_true rfl) rfl (j_goto hF 28 dX8_takes_74 (by decide) ?_)
        exact ih _ (k + 1) (by omega) (by omega) (by rw [← m_tk_s _ _ _ hk.1]; exact hM)
  exact LL ((r (47 + l)).toNat + 1) _ 0 (by omega) (by omega) (by rw [m_tk_0]; exact hM)

set_option maxRecDepth 100000 in
set_option maxHeartbeats 4000000 in
theorem c_X8_requestsOf {X : Hp} {ad : Nat → Nat} {r pf : Int → Int} {sv : Int} {er sn lw rc wt : Int → Int} {wg : Int} {ls ac fi : Int → Int} {as : Int} {hh : Int64} (hM : MM X ad r pf sv er sn lw rc wt wg ls ac fi as hh) {w nd : Int} (hw : 0 ≤ w ∧ w ≤ 1) (hA : AS r) (hn : -2147483648 ≤ nd ∧ nd ≤ 2147483647) : Ct yX8_requestsOf cX8_requestsOf 5 (some .int) 0 0 [.ref (ad 0), vi w, vi nd] X 0 0 (fun rv X' => rv = some (vi (m_asked r w nd)) ∧ X' = X) := by
  refine Ct.of (by decide +kernel) [some (.ref (ad 0)), some (vi w), some (vi nd), none, none] rfl (Nat.le_of_ble_eq_true rfl) (fun φ hF hR => ?_)
  have hM := hM.g
  have a0 := hA w hw.1 (by omega)
  refine j_iconst hF dX8_requestsOf_0 (j_istore_n hF dX8_requestsOf_1 (Nat.le_of_ble_eq_true rfl) rfl (j_bipush hF dX8_requestsOf_2 (by decide) (j_iload_n hF dX8_requestsOf_4 rfl (j_imul hF dX8_requestsOf_5 (j_istore hF dX8_requestsOf_6 (Nat.le_of_ble_eq_true rfl) rfl ?_)))))
  have LL : ∀ (n : Nat) (k : Int), (12 * w + r (307 + w) - k).toNat < n → 12 * w ≤ k ∧ k ≤ 12 * w + r (307 + w) → Jd φ X 0 0 8 [some (.ref (ad 0)), some (vi w), some (vi nd), some (vi (cf (fun i => if r (309 + (12 * w + i)) = nd then 1 else 0) (k - 12 * w).toNat)), some (vi k)] [] := by
    intro n
    induction n with
    | zero => intro k hfu; exact absurd hfu (by omega)
    | succ n ih =>
      intro k hfu hk
      refine j_iload hF dX8_requestsOf_8 rfl (j_bipush hF dX8_requestsOf_10 (by decide) (j_iload_n hF dX8_requestsOf_12 rfl (j_imul hF dX8_requestsOf_13 (j_aload_n hF dX8_requestsOf_14 rfl (j_get hF hM.1.1 fl_RX8_8 dX8_requestsOf_15 rfl ?_)))))
      refine j_sipush hF dX8_requestsOf_18 (by decide) (j_iload_n hF dX8_requestsOf_21 rfl (j_iadd hF dX8_requestsOf_22 (j_iald hF hM.1.2.1 dX8_requestsOf_23 (by omega) (fun ra1 rb1 => ?_))))
      refine j_iadd hF dX8_requestsOf_24 (j_icmp_ge hF 57 dX8_requestsOf_25 (by decide) (by omega) (fun c25 => ?_) (fun c25 => ?_))
      ·
        refine j_iload_n hF dX8_requestsOf_57 rfl (j_iret hF hR dX8_requestsOf_58 (by omega) (by omega) ?_)
        have ek : k - 12 * w = r (307 + w) := by omega
        rw [ek]
        exact ⟨rfl, rfl⟩
      ·
        refine j_iload_n hF dX8_requestsOf_28 rfl (j_aload_n hF dX8_requestsOf_29 rfl (j_get hF hM.1.1 fl_RX8_8 dX8_requestsOf_30 rfl (j_sipush hF dX8_requestsOf_33 (by decide) (j_iload hF dX8_requestsOf_36 rfl (j_iadd hF dX8_requestsOf_38 ?_)))))
        refine j_iald hF hM.1.2.1 dX8_requestsOf_39 (by omega) (fun ra2 rb2 => ?_)
        refine j_iload_n hF dX8_requestsOf_40 rfl (j_icmp_ne hF 48 dX8_requestsOf_41 (by decide) (by omega) (fun c41 => ?_) (fun c41 => ?_))
        ·
          refine j_iconst hF dX8_requestsOf_48 (j_iadd hF dX8_requestsOf_49 (j_istore_n hF dX8_requestsOf_50 (Nat.le_of_ble_eq_true rfl) rfl (j_iinc hF dX8_requestsOf_51 rfl (Nat.le_of_ble_eq_true rfl) rfl (j_goto hF 8 dX8_requestsOf_54 (by decide) ?_))))
          have et : (k + 1 - 12 * w).toNat = (k - 12 * w).toNat + 1 := by omega
          have ek : (((k - 12 * w).toNat : Nat) : Int) = k - 12 * w := by omega
          have e3 : 309 + (12 * w + (k - 12 * w)) = 309 + k := by omega
          have hi := ih (k + 1) (by omega) (by omega)
          rw [et] at hi
          simp only [cf] at hi
          rw [ek, e3] at hi
          first | (rw [if_pos c41] at hi; exact hi) | (rw [if_neg c41] at hi; exact hi)
        ·
          refine j_iconst hF dX8_requestsOf_44 (j_goto hF 49 dX8_requestsOf_45 (by decide) (j_iadd hF dX8_requestsOf_49 (j_istore_n hF dX8_requestsOf_50 (Nat.le_of_ble_eq_true rfl) rfl (j_iinc hF dX8_requestsOf_51 rfl (Nat.le_of_ble_eq_true rfl) rfl (j_goto hF 8 dX8_requestsOf_54 (by decide) ?_)))))
          have et : (k + 1 - 12 * w).toNat = (k - 12 * w).toNat + 1 := by omega
          have ek : (((k - 12 * w).toNat : Nat) : Int) = k - 12 * w := by omega
          have e3 : 309 + (12 * w + (k - 12 * w)) = 309 + k := by omega
          have hi := ih (k + 1) (by omega) (by omega)
          rw [et] at hi
          simp only [cf] at hi
          rw [ek, e3] at hi
          first | (rw [if_pos c41] at hi; exact hi) | (rw [if_neg c41] at hi; exact hi)
  have h0 := LL ((r (307 + w)).toNat + 1) (12 * w) (by omega) (by omega)
  rw [show (12 * w - 12 * w).toNat = 0 by omega] at h0
  exact h0

set_option maxRecDepth 100000 in
set_option maxHeartbeats 4000000 in
theorem c_X8_kind {X : Hp} {ad : Nat → Nat} {r pf : Int → Int} {sv : Int} {er sn lw rc wt : Int → Int} {wg : Int} {ls ac fi : Int → Int} {as : Int} {hh : Int64} (hM : MM X ad r pf sv er sn lw rc wt wg ls ac fi as hh) {e : Int} (hG : GI r) (hE : EI er) (h_e : -2147483648 ≤ e ∧ e ≤ 2147483647) : Ct yX8_kind cX8_kind 2 (some .int) 2 43 [.ref (ad 0), vi e] X 0 0 (fun rv X' => rv = some (vi (sp_kind (r, pf, sv, er) e).1) ∧ MX X X' ad (sp_kind (r, pf, sv, er) e).2) := by
  refine Ct.of (by decide +kernel) [some (.ref (ad 0)), some (vi e)] rfl (Nat.le_of_ble_eq_true rfl) (fun φ hF hR => ?_)
  have hM := hM.g
  have g0 := hG.2.1
  refine j_aload_n hF dX8_kind_0 rfl (j_iload_n hF dX8_kind_1 rfl (j_callV hF (c_X8_isEdge hM.1 hG (by omega)) ms_X8_isEdge mv_X8_isEdge lk_RX8_77 dX8_kind_2 hM.1.1 rfl rfl rfl (by simp [Value.category]) ⟨⟨(Nat.le_of_ble_eq_true rfl), (Nat.le_of_ble_eq_true rfl)⟩, by omega, by omega⟩ (fun v1 X1 hp1 hE1 => ?_)))
  obtain ⟨rfl, he1⟩ := hp1; obtain rfl := he1.symm
  refine j_b_eq hF 16 dX8_kind_5 (by decide) (fun c5 => ?_) (fun c5 => ?_)
  ·
    refine j_aload_n hF dX8_kind_16 rfl (j_bipush hF dX8_kind_17 (by decide) (j_callV hF (c_X8_fails hM.1 (by omega) hE) ms_X8_fails mv_X8_fails lk_RX8_52 dX8_kind_19 hM.1.1 rfl rfl rfl (by simp [Value.category]) ⟨⟨(Nat.le_of_ble_eq_true rfl), (Nat.le_of_ble_eq_true rfl)⟩, by omega, by omega⟩ (fun v2 X2 hp2 hE2 => ?_)))
    obtain ⟨rfl, hM1⟩ := hp2
    have hM := hM.tr hM1
    refine j_iret hF hR dX8_kind_22 (by omega) (by omega) ?_
    refine PU ?_ (MX.of hM)
    unfold sp_kind
    first | exact pif_t c5 | exact pif_f c5
  ·
    refine j_aload_n hF dX8_kind_8 rfl (j_iload_n hF dX8_kind_9 rfl (j_callV hF (c_X8_kindOf hM.1 hG (by omega)) ms_X8_kindOf mv_X8_kindOf lk_RX8_80 dX8_kind_10 hM.1.1 rfl rfl rfl (by simp [Value.category]) ⟨⟨(Nat.le_of_ble_eq_true rfl), (Nat.le_of_ble_eq_true rfl)⟩, by omega, by omega⟩ (fun v3 X3 hp3 hE3 => ?_)))
    obtain ⟨rfl, he3⟩ := hp3; obtain rfl := he3.symm
    refine j_goto hF 22 dX8_kind_13 (by decide) (j_iret hF hR dX8_kind_22 (by omega) (by omega) ?_)
    refine PU ?_ (MX.of hM)
    unfold sp_kind
    first | exact pif_t c5 | exact pif_f c5

set_option maxRecDepth 100000 in
set_option maxHeartbeats 4000000 in
theorem c_X8_move {X : Hp} {ad : Nat → Nat} {r pf : Int → Int} {sv : Int} {er sn lw rc wt : Int → Int} {wg : Int} {ls ac fi : Int → Int} {as : Int} {hh : Int64} (hM : MM X ad r pf sv er sn lw rc wt wg ls ac fi as hh) {e t : Int} (hG : GI r) (hE : EI er) (h_e : -2147483648 ≤ e ∧ e ≤ 2147483647) (h_t : -2147483648 ≤ t ∧ t ≤ 2147483647) : Ct yX8_move cX8_move 3 (some .int) 2 47 [.ref (ad 0), vi e, vi t] X 0 0 (fun rv X' => rv = some (vi (sp_move (r, pf, sv, er) e t).1) ∧ MX X X' ad (sp_move (r, pf, sv, er) e t).2) := by
  refine Ct.of (by decide +kernel) [some (.ref (ad 0)), some (vi e), some (vi t)] rfl (Nat.le_of_ble_eq_true rfl) (fun φ hF hR => ?_)
  have hM := hM.g
  have g0 := hG.2.1
  refine j_aload_n hF dX8_move_0 rfl (j_iload_n hF dX8_move_1 rfl (j_callV hF (c_X8_isEdge hM.1 hG (by omega)) ms_X8_isEdge mv_X8_isEdge lk_RX8_77 dX8_move_2 hM.1.1 rfl rfl rfl (by simp [Value.category]) ⟨⟨(Nat.le_of_ble_eq_true rfl), (Nat.le_of_ble_eq_true rfl)⟩, by omega, by omega⟩ (fun v1 X1 hp1 hE1 => ?_)))
  obtain ⟨rfl, he1⟩ := hp1; obtain rfl := he1.symm
  refine j_b_eq hF 29 dX8_move_5 (by decide) (fun c5 => ?_) (fun c5 => ?_)
  ·
    refine j_aload_n hF dX8_move_29 rfl (j_bipush hF dX8_move_30 (by decide) (j_callV hF (c_X8_fails hM.1 (by omega) hE) ms_X8_fails mv_X8_fails lk_RX8_52 dX8_move_32 hM.1.1 rfl rfl rfl (by simp [Value.category]) ⟨⟨(Nat.le_of_ble_eq_true rfl), (Nat.le_of_ble_eq_true rfl)⟩, by omega, by omega⟩ (fun v2 X2 hp2 hE2 => ?_)))
    obtain ⟨rfl, hM1⟩ := hp2
    have hM := hM.tr hM1
    refine j_iret hF hR dX8_move_35 (by omega) (by omega) ?_
    refine PU ?_ (MX.of hM)
    unfold sp_move
    first | exact pif_t ⟨c5, c17⟩ | exact pif_f (fun h => c5 h.1) | exact pif_f (fun h => c17 h.2)
  ·
    refine j_aload_n hF dX8_move_8 rfl (j_bipush hF dX8_move_9 (by decide) (j_iload_n hF dX8_move_11 rfl (j_iadd hF dX8_move_12 (j_iload_n hF dX8_move_13 rfl (j_callV hF (c_X8_isTime hM.1 hG (by omega) (by omega)) ms_X8_isTime mv_X8_isTime lk_RX8_86 dX8_move_14 hM.1.1 rfl rfl rfl (by simp [Value.category]) ⟨⟨(Nat.le_of_ble_eq_true rfl), (Nat.le_of_ble_eq_true rfl)⟩, by omega, by omega⟩ (fun v3 X3 hp3 hE3 => ?_))))))
    obtain ⟨rfl, he3⟩ := hp3; obtain rfl := he3.symm
    refine j_b_eq hF 29 dX8_move_17 (by decide) (fun c17 => ?_) (fun c17 => ?_)
    ·
      refine j_aload_n hF dX8_move_29 rfl (j_bipush hF dX8_move_30 (by decide) (j_callV hF (c_X8_fails hM.1 (by omega) hE) ms_X8_fails mv_X8_fails lk_RX8_52 dX8_move_32 hM.1.1 rfl rfl rfl (by simp [Value.category]) ⟨⟨(Nat.le_of_ble_eq_true rfl), (Nat.le_of_ble_eq_true rfl)⟩, by omega, by omega⟩ (fun v4 X4 hp4 hE4 => ?_)))
      obtain ⟨rfl, hM1⟩ := hp4
      have hM := hM.tr hM1
      refine j_iret hF hR dX8_move_35 (by omega) (by omega) ?_
      refine PU ?_ (MX.of hM)
      unfold sp_move
      first | exact pif_t ⟨c5, c17⟩ | exact pif_f (fun h => c5 h.1) | exact pif_f (fun h => c17 h.2)
    ·
      refine j_aload_n hF dX8_move_20 rfl (j_iload_n hF dX8_move_21 rfl (j_iload_n hF dX8_move_22 rfl (j_callV hF (c_X8_moved hM.1 hG (by omega) c17.1) ms_X8_moved mv_X8_moved lk_RX8_90 dX8_move_23 hM.1.1 rfl rfl rfl (by simp [Value.category]) ⟨⟨(Nat.le_of_ble_eq_true rfl), (Nat.le_of_ble_eq_true rfl)⟩, by omega, by omega⟩ (fun v5 X5 hp5 hE5 => ?_))))
      obtain ⟨rfl, he5⟩ := hp5; obtain rfl := he5.symm
      refine j_goto hF 35 dX8_move_26 (by decide) (j_iret hF hR dX8_move_35 (by omega) (by omega) ?_)
      refine PU ?_ (MX.of hM)
      unfold sp_move
      first | exact pif_t ⟨c5, c17⟩ | exact pif_f (fun h => c5 h.1) | exact pif_f (fun h => c17 h.2)

set_option maxRecDepth 100000 in
set_option maxHeartbeats 4000000 in
theorem c_X8_errorCount {X : Hp} {ad : Nat → Nat} {r pf : Int → Int} {sv : Int} {er sn lw rc wt : Int → Int} {wg : Int} {ls ac fi : Int → Int} {as : Int} {hh : Int64} (hM : MM X ad r pf sv er sn lw rc wt wg ls ac fi as hh) {c : Int} (hE : EI er) (h_c : -2147483648 ≤ c ∧ c ≤ 2147483647) : Ct yX8_errorCount cX8_errorCount 2 (some .int) 1 22 [.ref (ad 0), vi c] X 0 0 (fun rv X' => rv = some (vi (sp_errorCount (r, pf, sv, er) c).1) ∧ MX X X' ad (sp_errorCount (r, pf, sv, er) c).2) := by
  refine Ct.of (by decide +kernel) [some (.ref (ad 0)), some (vi c)] rfl (Nat.le_of_ble_eq_true rfl) (fun φ hF hR => ?_)
  have hM := hM.g
  refine j_iload_n hF dX8_errorCount_0 rfl (j_bipush hF dX8_errorCount_1 (by decide) (j_bipush hF dX8_errorCount_3 (by decide) (j_callS hF (c_X8_within (by omega)) ms_X8_within mt_X8_within lk_RX8_43 dX8_errorCount_5 rfl rfl rfl (by simp [Value.category]) ⟨⟨(Nat.le_of_ble_eq_true rfl), (Nat.le_of_ble_eq_true rfl)⟩, by omega, by omega⟩ (fun v1 X1 hp1 hE1 => ?_))))
  obtain ⟨rfl, he1⟩ := hp1; obtain rfl := he1.symm
  refine j_b_eq hF 23 dX8_errorCount_8 (by decide) (fun c8 => ?_) (fun c8 => ?_)
  ·
    refine j_aload_n hF dX8_errorCount_23 rfl (j_bipush hF dX8_errorCount_24 (by decide) (j_callV hF (c_X8_fails hM.1 (by omega) hE) ms_X8_fails mv_X8_fails lk_RX8_52 dX8_errorCount_26 hM.1.1 rfl rfl rfl (by simp [Value.category]) ⟨⟨(Nat.le_of_ble_eq_true rfl), (Nat.le_of_ble_eq_true rfl)⟩, by omega, by omega⟩ (fun v2 X2 hp2 hE2 => ?_)))
    obtain ⟨rfl, hM1⟩ := hp2
    have hM := hM.tr hM1
    refine j_iret hF hR dX8_errorCount_29 (by omega) (by omega) ?_
    refine PU ?_ (MX.of hM)
    unfold sp_errorCount
    first | exact pif_t c8 | exact pif_f c8
  ·
    refine j_aload_n hF dX8_errorCount_11 rfl (j_get hF hM.1.1 fl_RX8_18 dX8_errorCount_12 rfl (j_bipush hF dX8_errorCount_15 (by decide) (j_iload_n hF dX8_errorCount_17 rfl (j_isub hF dX8_errorCount_18 (j_iald hF hM.1.2.2.2.1 dX8_errorCount_19 (by omega) (fun ra3 rb3 => ?_))))))
    refine j_goto hF 29 dX8_errorCount_20 (by decide) (j_iret hF hR dX8_errorCount_29 (by omega) (by omega) ?_)
    refine PU ?_ (MX.of hM)
    unfold sp_errorCount
    first | exact pif_t c8 | exact pif_f c8

set_option maxRecDepth 100000 in
set_option maxHeartbeats 4000000 in
theorem c_X8_pending {X : Hp} {ad : Nat → Nat} {r pf : Int → Int} {sv : Int} {er sn lw rc wt : Int → Int} {wg : Int} {ls ac fi : Int → Int} {as : Int} {hh : Int64} (hM : MM X ad r pf sv er sn lw rc wt wg ls ac fi as hh) {w : Int} (hE : EI er) (h_w : -2147483648 ≤ w ∧ w ≤ 2147483647) : Ct yX8_pending cX8_pending 2 (some .int) 2 42 [.ref (ad 0), vi w] X 0 0 (fun rv X' => rv = some (vi (sp_pending (r, pf, sv, er) w).1) ∧ MX X X' ad (sp_pending (r, pf, sv, er) w).2) := by
  refine Ct.of (by decide +kernel) [some (.ref (ad 0)), some (vi w)] rfl (Nat.le_of_ble_eq_true rfl) (fun φ hF hR => ?_)
  have hM := hM.g
  refine j_iload_n hF dX8_pending_0 rfl (j_callS hF (c_X8_isWorker (by omega)) ms_X8_isWorker mt_X8_isWorker lk_RX8_111 dX8_pending_1 rfl rfl rfl (by simp [Value.category]) ⟨⟨(Nat.le_of_ble_eq_true rfl), (Nat.le_of_ble_eq_true rfl)⟩, by omega, by omega⟩ (fun v1 X1 hp1 hE1 => ?_))
  obtain ⟨rfl, he1⟩ := hp1; obtain rfl := he1.symm
  refine j_b_eq hF 20 dX8_pending_4 (by decide) (fun c4 => ?_) (fun c4 => ?_)
  ·
    refine j_aload_n hF dX8_pending_20 rfl (j_bipush hF dX8_pending_21 (by decide) (j_callV hF (c_X8_fails hM.1 (by omega) hE) ms_X8_fails mv_X8_fails lk_RX8_52 dX8_pending_23 hM.1.1 rfl rfl rfl (by simp [Value.category]) ⟨⟨(Nat.le_of_ble_eq_true rfl), (Nat.le_of_ble_eq_true rfl)⟩, by omega, by omega⟩ (fun v2 X2 hp2 hE2 => ?_)))
    obtain ⟨rfl, hM1⟩ := hp2
    have hM := hM.tr hM1
    refine j_iret hF hR dX8_pending_26 (by omega) (by omega) ?_
    refine PU ?_ (MX.of hM)
    unfold sp_pending
    first | exact pif_t c4 | exact pif_f c4
  ·
    refine j_aload_n hF dX8_pending_7 rfl (j_get hF hM.1.1 fl_RX8_8 dX8_pending_8 rfl (j_sipush hF dX8_pending_11 (by decide) (j_iload_n hF dX8_pending_14 rfl (j_iadd hF dX8_pending_15 (j_iald hF hM.1.2.1 dX8_pending_16 (by omega) (fun ra3 rb3 => ?_))))))
    refine j_goto hF 26 dX8_pending_17 (by decide) (j_iret hF hR dX8_pending_26 (by omega) (by omega) ?_)
    refine PU ?_ (MX.of hM)
    unfold sp_pending
    first | exact pif_t c4 | exact pif_f c4

set_option maxRecDepth 100000 in
set_option maxHeartbeats 4000000 in
theorem c_X8_messages {X : Hp} {ad : Nat → Nat} {r pf : Int → Int} {sv : Int} {er sn lw rc wt : Int → Int} {wg : Int} {ls ac fi : Int → Int} {as : Int} {hh : Int64} (hM : MM X ad r pf sv er sn lw rc wt wg ls ac fi as hh) {w e : Int} (hG : GI r) (hE : EI er) (h_w : -2147483648 ≤ w ∧ w ≤ 2147483647) (h_e : -2147483648 ≤ e ∧ e ≤ 2147483647) : Ct yX8_messages cX8_messages 3 (some .int) 2 43 [.ref (ad 0), vi w, vi e] X 0 0 (fun rv X' => rv = some (vi (sp_messages (r, pf, sv, er) w e).1) ∧ MX X X' ad (sp_messages (r, pf, sv, er) w e).2) := by
  refine Ct.of (by decide +kernel) [some (.ref (ad 0)), some (vi w), some (vi e)] rfl (Nat.le_of_ble_eq_true rfl) (fun φ hF hR => ?_)
  have hM := hM.g
  have g0 := hG.2.1
  refine j_iload_n hF dX8_messages_0 rfl (j_callS hF (c_X8_isWorker (by omega)) ms_X8_isWorker mt_X8_isWorker lk_RX8_111 dX8_messages_1 rfl rfl rfl (by simp [Value.category]) ⟨⟨(Nat.le_of_ble_eq_true rfl), (Nat.le_of_ble_eq_true rfl)⟩, by omega, by omega⟩ (fun v1 X1 hp1 hE1 => ?_))
  obtain ⟨rfl, he1⟩ := hp1; obtain rfl := he1.symm
  refine j_b_eq hF 32 dX8_messages_4 (by decide) (fun c4 => ?_) (fun c4 => ?_)
  ·
    refine j_aload_n hF dX8_messages_32 rfl (j_bipush hF dX8_messages_33 (by decide) (j_callV hF (c_X8_fails hM.1 (by omega) hE) ms_X8_fails mv_X8_fails lk_RX8_52 dX8_messages_35 hM.1.1 rfl rfl rfl (by simp [Value.category]) ⟨⟨(Nat.le_of_ble_eq_true rfl), (Nat.le_of_ble_eq_true rfl)⟩, by omega, by omega⟩ (fun v2 X2 hp2 hE2 => ?_)))
    obtain ⟨rfl, hM1⟩ := hp2
    have hM := hM.tr hM1
    refine j_iret hF hR dX8_messages_38 (by omega) (by omega) ?_
    refine PU ?_ (MX.of hM)
    unfold sp_messages
    first | exact pif_t ⟨c4, c12⟩ | exact pif_f (fun h => c4 h.1) | exact pif_f (fun h => c12 h.2)
  ·
    refine j_aload_n hF dX8_messages_7 rfl (j_iload_n hF dX8_messages_8 rfl (j_callV hF (c_X8_isEdge hM.1 hG (by omega)) ms_X8_isEdge mv_X8_isEdge lk_RX8_77 dX8_messages_9 hM.1.1 rfl rfl rfl (by simp [Value.category]) ⟨⟨(Nat.le_of_ble_eq_true rfl), (Nat.le_of_ble_eq_true rfl)⟩, by omega, by omega⟩ (fun v3 X3 hp3 hE3 => ?_)))
    obtain ⟨rfl, he3⟩ := hp3; obtain rfl := he3.symm
    refine j_b_eq hF 32 dX8_messages_12 (by decide) (fun c12 => ?_) (fun c12 => ?_)
    ·
      refine j_aload_n hF dX8_messages_32 rfl (j_bipush hF dX8_messages_33 (by decide) (j_callV hF (c_X8_fails hM.1 (by omega) hE) ms_X8_fails mv_X8_fails lk_RX8_52 dX8_messages_35 hM.1.1 rfl rfl rfl (by simp [Value.category]) ⟨⟨(Nat.le_of_ble_eq_true rfl), (Nat.le_of_ble_eq_true rfl)⟩, by omega, by omega⟩ (fun v4 X4 hp4 hE4 => ?_)))
      obtain ⟨rfl, hM1⟩ := hp4
      have hM := hM.tr hM1
      refine j_iret hF hR dX8_messages_38 (by omega) (by omega) ?_
      refine PU ?_ (MX.of hM)
      unfold sp_messages
      first | exact pif_t ⟨c4, c12⟩ | exact pif_f (fun h => c4 h.1) | exact pif_f (fun h => c12 h.2)
    ·
      refine j_aload_n hF dX8_messages_15 rfl (j_get hF hM.1.1 fl_RX8_8 dX8_messages_16 rfl (j_bipush hF dX8_messages_19 (by decide) (j_aload_n hF dX8_messages_21 rfl (j_iload_n hF dX8_messages_22 rfl (j_iload_n hF dX8_messages_23 rfl ?_)))))
      refine j_callV hF (c_X8_lineOf hM.1) ms_X8_lineOf mv_X8_lineOf lk_RX8_108 dX8_messages_24 hM.1.1 rfl rfl rfl (by simp [Value.category]) ⟨⟨(Nat.le_of_ble_eq_true rfl), (Nat.le_of_ble_eq_true rfl)⟩, by omega, by omega⟩ (fun v5 X5 hp5 hE5 => ?_)
      obtain ⟨rfl, he5⟩ := hp5; obtain rfl := he5.symm
      refine j_iadd hF dX8_messages_27 (j_iald hF hM.1.2.1 dX8_messages_28 (by omega) (fun ra6 rb6 => ?_))
      refine j_goto hF 38 dX8_messages_29 (by decide) (j_iret hF hR dX8_messages_38 (by omega) (by omega) ?_)
      refine PU ?_ (MX.of hM)
      unfold sp_messages
      first | exact pif_t ⟨c4, c12⟩ | exact pif_f (fun h => c4 h.1) | exact pif_f (fun h => c12 h.2)

set_option maxRecDepth 100000 in
set_option maxHeartbeats 4000000 in
theorem c_X8_messageTime {X : Hp} {ad : Nat → Nat} {r pf : Int → Int} {sv : Int} {er sn lw rc wt : Int → Int} {wg : Int} {ls ac fi : Int → Int} {as : Int} {hh : Int64} (hM : MM X ad r pf sv er sn lw rc wt wg ls ac fi as hh) {w e i : Int} (hG : GI r) (hE : EI er) (hm : RM2 r) (h_w : -2147483648 ≤ w ∧ w ≤ 2147483647) (h_e : -2147483648 ≤ e ∧ e ≤ 2147483647) (h_i : -2147483648 ≤ i ∧ i ≤ 2147483647) : Ct yX8_messageTime cX8_messageTime 5 (some .int) 2 43 [.ref (ad 0), vi w, vi e, vi i] X 0 0 (fun rv X' => rv = some (vi (sp_messageTime (r, pf, sv, er) w e i).1) ∧ MX X X' ad (sp_messageTime (r, pf, sv, er) w e i).2) := by
  refine Ct.of (by decide +kernel) [some (.ref (ad 0)), some (vi w), some (vi e), some (vi i), none] rfl (Nat.le_of_ble_eq_true rfl) (fun φ hF hR => ?_)
  have hM := hM.g
  have g0 := hG.2.1
  refine j_iload_n hF dX8_messageTime_0 rfl (j_callS hF (c_X8_isWorker (by omega)) ms_X8_isWorker mt_X8_isWorker lk_RX8_111 dX8_messageTime_1 rfl rfl rfl (by simp [Value.category]) ⟨⟨(Nat.le_of_ble_eq_true rfl), (Nat.le_of_ble_eq_true rfl)⟩, by omega, by omega⟩ (fun v1 X1 hp1 hE1 => ?_))
  obtain ⟨rfl, he1⟩ := hp1; obtain rfl := he1.symm
  refine j_b_eq hF 19 dX8_messageTime_4 (by decide) (fun c4 => ?_) (fun c4 => ?_)
  ·
    refine j_aload_n hF dX8_messageTime_19 rfl (j_bipush hF dX8_messageTime_20 (by decide) (j_callV hF (c_X8_fails hM.1 (by omega) hE) ms_X8_fails mv_X8_fails lk_RX8_52 dX8_messageTime_22 hM.1.1 rfl rfl rfl (by simp [Value.category]) ⟨⟨(Nat.le_of_ble_eq_true rfl), (Nat.le_of_ble_eq_true rfl)⟩, by omega, by omega⟩ (fun v2 X2 hp2 hE2 => ?_)))
    obtain ⟨rfl, hM1⟩ := hp2
    have hM := hM.tr hM1
    refine j_iret hF hR dX8_messageTime_25 (by omega) (by omega) ?_
    refine PU ?_ (MX.of hM)
    unfold sp_messageTime
    first | (refine (pif_t ⟨⟨c4, c12⟩, c16⟩).trans ?_; rw [if_pos c45]) | (refine (pif_t ⟨⟨c4, c12⟩, c16⟩).trans ?_; rw [if_neg (Int.not_lt.mpr c45)]) | exact pif_f (fun h => c4 h.1.1) | exact pif_f (fun h => c12 h.1.2) | exact pif_f (fun h => absurd h.2 (Int.not_le.mpr c16))
  ·
    refine j_aload_n hF dX8_messageTime_7 rfl (j_iload_n hF dX8_messageTime_8 rfl (j_callV hF (c_X8_isEdge hM.1 hG (by omega)) ms_X8_isEdge mv_X8_isEdge lk_RX8_77 dX8_messageTime_9 hM.1.1 rfl rfl rfl (by simp [Value.category]) ⟨⟨(Nat.le_of_ble_eq_true rfl), (Nat.le_of_ble_eq_true rfl)⟩, by omega, by omega⟩ (fun v3 X3 hp3 hE3 => ?_)))
    obtain ⟨rfl, he3⟩ := hp3; obtain rfl := he3.symm
    refine j_b_eq hF 19 dX8_messageTime_12 (by decide) (fun c12 => ?_) (fun c12 => ?_)
    ·
      refine j_aload_n hF dX8_messageTime_19 rfl (j_bipush hF dX8_messageTime_20 (by decide) (j_callV hF (c_X8_fails hM.1 (by omega) hE) ms_X8_fails mv_X8_fails lk_RX8_52 dX8_messageTime_22 hM.1.1 rfl rfl rfl (by simp [Value.category]) ⟨⟨(Nat.le_of_ble_eq_true rfl), (Nat.le_of_ble_eq_true rfl)⟩, by omega, by omega⟩ (fun v4 X4 hp4 hE4 => ?_)))
      obtain ⟨rfl, hM1⟩ := hp4
      have hM := hM.tr hM1
      refine j_iret hF hR dX8_messageTime_25 (by omega) (by omega) ?_
      refine PU ?_ (MX.of hM)
      unfold sp_messageTime
      first | (refine (pif_t ⟨⟨c4, c12⟩, c16⟩).trans ?_; rw [if_pos c45]) | (refine (pif_t ⟨⟨c4, c12⟩, c16⟩).trans ?_; rw [if_neg (Int.not_lt.mpr c45)]) | exact pif_f (fun h => c4 h.1.1) | exact pif_f (fun h => c12 h.1.2) | exact pif_f (fun h => absurd h.2 (Int.not_le.mpr c16))
    ·
      refine j_iload_n hF dX8_messageTime_15 rfl (j_if_ge hF 26 dX8_messageTime_16 (by decide) (by omega) (fun c16 => ?_) (fun c16 => ?_))
      ·
        refine j_aload_n hF dX8_messageTime_26 rfl (j_iload_n hF dX8_messageTime_27 rfl (j_iload_n hF dX8_messageTime_28 rfl (j_callV hF (c_X8_lineOf hM.1) ms_X8_lineOf mv_X8_lineOf lk_RX8_108 dX8_messageTime_29 hM.1.1 rfl rfl rfl (by simp [Value.category]) ⟨⟨(Nat.le_of_ble_eq_true rfl), (Nat.le_of_ble_eq_true rfl)⟩, by omega, by omega⟩ (fun v5 X5 hp5 hE5 => ?_))))
        obtain ⟨rfl, he5⟩ := hp5; obtain rfl := he5.symm
        refine j_istore hF dX8_messageTime_32 (Nat.le_of_ble_eq_true rfl) rfl (j_iload_n hF dX8_messageTime_34 rfl (j_aload_n hF dX8_messageTime_35 rfl (j_get hF hM.1.1 fl_RX8_8 dX8_messageTime_36 rfl (j_bipush hF dX8_messageTime_39 (by decide) (j_iload hF dX8_messageTime_41 rfl ?_)))))
        refine j_iadd hF dX8_messageTime_43 (j_iald hF hM.1.2.1 dX8_messageTime_44 (by omega) (fun ra6 rb6 => ?_))
        have m0 := hm (10 * w + e) (by omega) (by omega)
        refine j_icmp_ge hF 66 dX8_messageTime_45 (by decide) (by omega) (fun c45 => ?_) (fun c45 => ?_)
        ·
          refine j_iconst hF dX8_messageTime_66 (j_iret hF hR dX8_messageTime_67 (by omega) (by omega) ?_)
          refine PU ?_ (MX.of hM)
          unfold sp_messageTime
          first | (refine (pif_t ⟨⟨c4, c12⟩, c16⟩).trans ?_; rw [if_pos c45]) | (refine (pif_t ⟨⟨c4, c12⟩, c16⟩).trans ?_; rw [if_neg (Int.not_lt.mpr c45)]) | exact pif_f (fun h => c4 h.1.1) | exact pif_f (fun h => c12 h.1.2) | exact pif_f (fun h => absurd h.2 (Int.not_le.mpr c16))
        ·
          refine j_aload_n hF dX8_messageTime_48 rfl (j_get hF hM.1.1 fl_RX8_8 dX8_messageTime_49 rfl (j_bipush hF dX8_messageTime_52 (by decide) (j_bipush hF dX8_messageTime_54 (by decide) (j_iload hF dX8_messageTime_56 rfl (j_imul hF dX8_messageTime_58 ?_)))))
          refine j_iadd hF dX8_messageTime_59 (j_iload_n hF dX8_messageTime_60 rfl (j_iadd hF dX8_messageTime_61 (j_iald hF hM.1.2.1 dX8_messageTime_62 (by omega) (fun ra7 rb7 => ?_))))
          refine j_goto hF 67 dX8_messageTime_63 (by decide) (j_iret hF hR dX8_messageTime_67 (by omega) (by omega) ?_)
          refine PU ?_ (MX.of hM)
          unfold sp_messageTime
          first | (refine (pif_t ⟨⟨c4, c12⟩, c16⟩).trans ?_; rw [if_pos c45]) | (refine (pif_t ⟨⟨c4, c12⟩, c16⟩).trans ?_; rw [if_neg (Int.not_lt.mpr c45)]) | exact pif_f (fun h => c4 h.1.1) | exact pif_f (fun h => c12 h.1.2) | exact pif_f (fun h => absurd h.2 (Int.not_le.mpr c16))
      ·
        refine j_aload_n hF dX8_messageTime_19 rfl (j_bipush hF dX8_messageTime_20 (by decide) (j_callV hF (c_X8_fails hM.1 (by omega) hE) ms_X8_fails mv_X8_fails lk_RX8_52 dX8_messageTime_22 hM.1.1 rfl rfl rfl (by simp [Value.category]) ⟨⟨(Nat.le_of_ble_eq_true rfl), (Nat.le_of_ble_eq_true rfl)⟩, by omega, by omega⟩ (fun v8 X8 hp8 hE8 => ?_)))
        obtain ⟨rfl, hM1⟩ := hp8
        have hM := hM.tr hM1
        refine j_iret hF hR dX8_messageTime_25 (by omega) (by omega) ?_
        refine PU ?_ (MX.of hM)
        unfold sp_messageTime
        first | (refine (pif_t ⟨⟨c4, c12⟩, c16⟩).trans ?_; rw [if_pos c45]) | (refine (pif_t ⟨⟨c4, c12⟩, c16⟩).trans ?_; rw [if_neg (Int.not_lt.mpr c45)]) | exact pif_f (fun h => c4 h.1.1) | exact pif_f (fun h => c12 h.1.2) | exact pif_f (fun h => absurd h.2 (Int.not_le.mpr c16))

set_option maxRecDepth 100000 in
set_option maxHeartbeats 4000000 in
theorem c_X8_requests {X : Hp} {ad : Nat → Nat} {r pf : Int → Int} {sv : Int} {er sn lw rc wt : Int → Int} {wg : Int} {ls ac fi : Int → Int} {as : Int} {hh : Int64} (hM : MM X ad r pf sv er sn lw rc wt wg ls ac fi as hh) {w n : Int} (hG : GI r) (hE : EI er) (hA : AS r) (h_w : -2147483648 ≤ w ∧ w ≤ 2147483647) (h_n : -2147483648 ≤ n ∧ n ≤ 2147483647) : Ct yX8_requests cX8_requests 3 (some .int) 2 43 [.ref (ad 0), vi w, vi n] X 0 0 (fun rv X' => rv = some (vi (sp_requests (r, pf, sv, er) w n).1) ∧ MX X X' ad (sp_requests (r, pf, sv, er) w n).2) := by
  refine Ct.of (by decide +kernel) [some (.ref (ad 0)), some (vi w), some (vi n)] rfl (Nat.le_of_ble_eq_true rfl) (fun φ hF hR => ?_)
  have hM := hM.g
  have g0 := hG.1
  refine j_iload_n hF dX8_requests_0 rfl (j_callS hF (c_X8_isWorker (by omega)) ms_X8_isWorker mt_X8_isWorker lk_RX8_111 dX8_requests_1 rfl rfl rfl (by simp [Value.category]) ⟨⟨(Nat.le_of_ble_eq_true rfl), (Nat.le_of_ble_eq_true rfl)⟩, by omega, by omega⟩ (fun v1 X1 hp1 hE1 => ?_))
  obtain ⟨rfl, he1⟩ := hp1; obtain rfl := he1.symm
  refine j_b_eq hF 24 dX8_requests_4 (by decide) (fun c4 => ?_) (fun c4 => ?_)
  ·
    refine j_aload_n hF dX8_requests_24 rfl (j_bipush hF dX8_requests_25 (by decide) (j_callV hF (c_X8_fails hM.1 (by omega) hE) ms_X8_fails mv_X8_fails lk_RX8_52 dX8_requests_27 hM.1.1 rfl rfl rfl (by simp [Value.category]) ⟨⟨(Nat.le_of_ble_eq_true rfl), (Nat.le_of_ble_eq_true rfl)⟩, by omega, by omega⟩ (fun v2 X2 hp2 hE2 => ?_)))
    obtain ⟨rfl, hM1⟩ := hp2
    have hM := hM.tr hM1
    refine j_iret hF hR dX8_requests_30 (by omega) (by omega) ?_
    refine PU ?_ (MX.of hM)
    unfold sp_requests
    first | exact pif_t ⟨c4, c12⟩ | exact pif_f (fun h => c4 h.1) | exact pif_f (fun h => c12 h.2)
  ·
    refine j_aload_n hF dX8_requests_7 rfl (j_iload_n hF dX8_requests_8 rfl (j_callV hF (c_X8_isNode hM.1 hG (by omega)) ms_X8_isNode mv_X8_isNode lk_RX8_71 dX8_requests_9 hM.1.1 rfl rfl rfl (by simp [Value.category]) ⟨⟨(Nat.le_of_ble_eq_true rfl), (Nat.le_of_ble_eq_true rfl)⟩, by omega, by omega⟩ (fun v3 X3 hp3 hE3 => ?_)))
    obtain ⟨rfl, he3⟩ := hp3; obtain rfl := he3.symm
    refine j_b_eq hF 24 dX8_requests_12 (by decide) (fun c12 => ?_) (fun c12 => ?_)
    ·
      refine j_aload_n hF dX8_requests_24 rfl (j_bipush hF dX8_requests_25 (by decide) (j_callV hF (c_X8_fails hM.1 (by omega) hE) ms_X8_fails mv_X8_fails lk_RX8_52 dX8_requests_27 hM.1.1 rfl rfl rfl (by simp [Value.category]) ⟨⟨(Nat.le_of_ble_eq_true rfl), (Nat.le_of_ble_eq_true rfl)⟩, by omega, by omega⟩ (fun v4 X4 hp4 hE4 => ?_)))
      obtain ⟨rfl, hM1⟩ := hp4
      have hM := hM.tr hM1
      refine j_iret hF hR dX8_requests_30 (by omega) (by omega) ?_
      refine PU ?_ (MX.of hM)
      unfold sp_requests
      first | exact pif_t ⟨c4, c12⟩ | exact pif_f (fun h => c4 h.1) | exact pif_f (fun h => c12 h.2)
    ·
      refine j_aload_n hF dX8_requests_15 rfl (j_iload_n hF dX8_requests_16 rfl (j_iload_n hF dX8_requests_17 rfl (j_callV hF (c_X8_requestsOf hM.1 (by omega) hA (by omega)) ms_X8_requestsOf mv_X8_requestsOf lk_RX8_165 dX8_requests_18 hM.1.1 rfl rfl rfl (by simp [Value.category]) ⟨⟨(Nat.le_of_ble_eq_true rfl), (Nat.le_of_ble_eq_true rfl)⟩, by omega, by omega⟩ (fun v5 X5 hp5 hE5 => ?_))))
      obtain ⟨rfl, he5⟩ := hp5; obtain rfl := he5.symm
      refine j_goto hF 30 dX8_requests_21 (by decide) (j_iret hF hR dX8_requests_30 (by omega) (by omega) ?_)
      refine PU ?_ (MX.of hM)
      unfold sp_requests
      first | exact pif_t ⟨c4, c12⟩ | exact pif_f (fun h => c4 h.1) | exact pif_f (fun h => c12 h.2)

set_option maxRecDepth 100000 in
set_option maxHeartbeats 4000000 in
theorem c_X8_count {X : Hp} {ad : Nat → Nat} {r pf : Int → Int} {sv : Int} {er sn lw rc wt : Int → Int} {wg : Int} {ls ac fi : Int → Int} {as : Int} {hh : Int64} (hM : MM X ad r pf sv er sn lw rc wt wg ls ac fi as hh) {w p t : Int} (hG : GI r) (hE : EI er) (h_w : -2147483648 ≤ w ∧ w ≤ 2147483647) (h_p : -2147483648 ≤ p ∧ p ≤ 2147483647) (h_t : -2147483648 ≤ t ∧ t ≤ 2147483647) : Ct yX8_count cX8_count 4 (some .int) 3 64 [.ref (ad 0), vi w, vi p, vi t] X 0 0 (fun rv X' => rv = some (vi (sp_count (r, pf, sv, er) w p t).1) ∧ MX X X' ad (sp_count (r, pf, sv, er) w p t).2) := by
  refine Ct.of (by decide +kernel) [some (.ref (ad 0)), some (vi w), some (vi p), some (vi t)] rfl (Nat.le_of_ble_eq_true rfl) (fun φ hF hR => ?_)
  have hM := hM.g
  have g0 := hG.1
  have g1 := hG.2.1
  refine j_iload_n hF dX8_count_0 rfl (j_callS hF (c_X8_isWorker (by omega)) ms_X8_isWorker mt_X8_isWorker lk_RX8_111 dX8_count_1 rfl rfl rfl (by simp [Value.category]) ⟨⟨(Nat.le_of_ble_eq_true rfl), (Nat.le_of_ble_eq_true rfl)⟩, by omega, by omega⟩ (fun v1 X1 hp1 hE1 => ?_))
  obtain ⟨rfl, he1⟩ := hp1; obtain rfl := he1.symm
  refine j_b_eq hF 43 dX8_count_4 (by decide) (fun c4 => ?_) (fun c4 => ?_)
  ·
    refine j_aload_n hF dX8_count_43 rfl (j_bipush hF dX8_count_44 (by decide) (j_callV hF (c_X8_fails hM.1 (by omega) hE) ms_X8_fails mv_X8_fails lk_RX8_52 dX8_count_46 hM.1.1 rfl rfl rfl (by simp [Value.category]) ⟨⟨(Nat.le_of_ble_eq_true rfl), (Nat.le_of_ble_eq_true rfl)⟩, by omega, by omega⟩ (fun v2 X2 hp2 hE2 => ?_)))
    obtain ⟨rfl, hM1⟩ := hp2
    have hM := hM.tr hM1
    refine j_iret hF hR dX8_count_49 (by omega) (by omega) ?_
    refine PU ?_ (MX.of hM)
    unfold sp_count
    first | exact pif_t ⟨⟨c4, c12⟩, c21⟩ | exact pif_f (fun h => c4 h.1.1) | exact pif_f (fun h => c12 h.1.2) | exact pif_f (fun h => c21 h.2)
  ·
    refine j_aload_n hF dX8_count_7 rfl (j_iload_n hF dX8_count_8 rfl (j_callV hF (c_X8_isPlace hM.1 hG (by omega)) ms_X8_isPlace mv_X8_isPlace lk_RX8_101 dX8_count_9 hM.1.1 rfl rfl rfl (by simp [Value.category]) ⟨⟨(Nat.le_of_ble_eq_true rfl), (Nat.le_of_ble_eq_true rfl)⟩, by omega, by omega⟩ (fun v3 X3 hp3 hE3 => ?_)))
    obtain ⟨rfl, he3⟩ := hp3; obtain rfl := he3.symm
    refine j_b_eq hF 43 dX8_count_12 (by decide) (fun c12 => ?_) (fun c12 => ?_)
    ·
      refine j_aload_n hF dX8_count_43 rfl (j_bipush hF dX8_count_44 (by decide) (j_callV hF (c_X8_fails hM.1 (by omega) hE) ms_X8_fails mv_X8_fails lk_RX8_52 dX8_count_46 hM.1.1 rfl rfl rfl (by simp [Value.category]) ⟨⟨(Nat.le_of_ble_eq_true rfl), (Nat.le_of_ble_eq_true rfl)⟩, by omega, by omega⟩ (fun v4 X4 hp4 hE4 => ?_)))
      obtain ⟨rfl, hM1⟩ := hp4
      have hM := hM.tr hM1
      refine j_iret hF hR dX8_count_49 (by omega) (by omega) ?_
      refine PU ?_ (MX.of hM)
      unfold sp_count
      first | exact pif_t ⟨⟨c4, c12⟩, c21⟩ | exact pif_f (fun h => c4 h.1.1) | exact pif_f (fun h => c12 h.1.2) | exact pif_f (fun h => c21 h.2)
    ·
      have p0 := m_place_rg hG c12
      refine j_aload_n hF dX8_count_15 rfl (j_iload_n hF dX8_count_16 rfl (j_iload_n hF dX8_count_17 rfl (j_callV hF (c_X8_isTime hM.1 hG (by omega) (by omega)) ms_X8_isTime mv_X8_isTime lk_RX8_86 dX8_count_18 hM.1.1 rfl rfl rfl (by simp [Value.category]) ⟨⟨(Nat.le_of_ble_eq_true rfl), (Nat.le_of_ble_eq_true rfl)⟩, by omega, by omega⟩ (fun v5 X5 hp5 hE5 => ?_))))
      obtain ⟨rfl, he5⟩ := hp5; obtain rfl := he5.symm
      refine j_b_eq hF 43 dX8_count_21 (by decide) (fun c21 => ?_) (fun c21 => ?_)
      ·
        refine j_aload_n hF dX8_count_43 rfl (j_bipush hF dX8_count_44 (by decide) (j_callV hF (c_X8_fails hM.1 (by omega) hE) ms_X8_fails mv_X8_fails lk_RX8_52 dX8_count_46 hM.1.1 rfl rfl rfl (by simp [Value.category]) ⟨⟨(Nat.le_of_ble_eq_true rfl), (Nat.le_of_ble_eq_true rfl)⟩, by omega, by omega⟩ (fun v6 X6 hp6 hE6 => ?_)))
        obtain ⟨rfl, hM1⟩ := hp6
        have hM := hM.tr hM1
        refine j_iret hF hR dX8_count_49 (by omega) (by omega) ?_
        refine PU ?_ (MX.of hM)
        unfold sp_count
        first | exact pif_t ⟨⟨c4, c12⟩, c21⟩ | exact pif_f (fun h => c4 h.1.1) | exact pif_f (fun h => c12 h.1.2) | exact pif_f (fun h => c21 h.2)
      ·
        have t0 := c21.1
        refine j_sipush hF dX8_count_24 (by decide) (j_aload_n hF dX8_count_27 rfl (j_get hF hM.1.1 fl_RX8_8 dX8_count_28 rfl (j_aload_n hF dX8_count_31 rfl (j_iload_n hF dX8_count_32 rfl (j_iload_n hF dX8_count_33 rfl ?_)))))
        refine j_iload_n hF dX8_count_34 rfl (j_callV hF (c_X8_viewAt hM.1) ms_X8_viewAt mv_X8_viewAt lk_RX8_59 dX8_count_35 hM.1.1 rfl rfl rfl (by simp [Value.category]) ⟨⟨(Nat.le_of_ble_eq_true rfl), (Nat.le_of_ble_eq_true rfl)⟩, by omega, by omega⟩ (fun v7 X7 hp7 hE7 => ?_))
        obtain ⟨rfl, he7⟩ := hp7; obtain rfl := he7.symm
        refine j_iald hF hM.1.2.1 dX8_count_38 (by omega) (fun ra8 rb8 => ?_)
        refine j_iadd hF dX8_count_39 (j_goto hF 49 dX8_count_40 (by decide) (j_iret hF hR dX8_count_49 (by omega) (by omega) ?_))
        refine PU ?_ (MX.of hM)
        unfold sp_count
        first | exact pif_t ⟨⟨c4, c12⟩, c21⟩ | exact pif_f (fun h => c4 h.1.1) | exact pif_f (fun h => c12 h.1.2) | exact pif_f (fun h => c21 h.2)

set_option maxRecDepth 100000 in
set_option maxHeartbeats 4000000 in
theorem c_X8_send {X : Hp} {ad : Nat → Nat} {r pf : Int → Int} {sv : Int} {er sn lw rc wt : Int → Int} {wg : Int} {ls ac fi : Int → Int} {as : Int} {hh : Int64} (hM : MM X ad r pf sv er sn lw rc wt wg ls ac fi as hh) {e w N : Int} (hG : GI r) (hE : EI er) (hI : RI r N) (hN : N + 12 < 8192) (hm : RM2 r) (hs : 0 ≤ sv ∧ sv ≤ 3) (ho : EO r) (h_e : -2147483648 ≤ e ∧ e ≤ 2147483647) (h_w : -2147483648 ≤ w ∧ w ≤ 2147483647) : Ct yX8_send cX8_send 4 (some .int) 2 48 [.ref (ad 0), vi e, vi w] X 0 0 (fun rv X' => rv = some (vi (sp_send (r, pf, sv, er) e w).1) ∧ MX X X' ad (sp_send (r, pf, sv, er) e w).2) := by
  refine Ct.of (by decide +kernel) [some (.ref (ad 0)), some (vi e), some (vi w), none] rfl (Nat.le_of_ble_eq_true rfl) (fun φ hF hR => ?_)
  have hM := hM.g
  have g0 := hG.2.1
  refine j_aload_n hF dX8_send_0 rfl (j_iload_n hF dX8_send_1 rfl (j_callV hF (c_X8_isEdge hM.1 hG (by omega)) ms_X8_isEdge mv_X8_isEdge lk_RX8_77 dX8_send_2 hM.1.1 rfl rfl rfl (by simp [Value.category]) ⟨⟨(Nat.le_of_ble_eq_true rfl), (Nat.le_of_ble_eq_true rfl)⟩, by omega, by omega⟩ (fun v1 X1 hp1 hE1 => ?_)))
  obtain ⟨rfl, he1⟩ := hp1; obtain rfl := he1.symm
  refine j_b_eq hF 15 dX8_send_5 (by decide) (fun c5 => ?_) (fun c5 => ?_)
  ·
    refine j_aload_n hF dX8_send_15 rfl (j_bipush hF dX8_send_16 (by decide) (j_callV hF (c_X8_fails hM.1 (by omega) hE) ms_X8_fails mv_X8_fails lk_RX8_52 dX8_send_18 hM.1.1 rfl rfl rfl (by simp [Value.category]) ⟨⟨(Nat.le_of_ble_eq_true rfl), (Nat.le_of_ble_eq_true rfl)⟩, by omega, by omega⟩ (fun v2 X2 hp2 hE2 => ?_)))
    obtain ⟨rfl, hM1⟩ := hp2
    have hM := hM.tr hM1
    refine j_iret hF hR dX8_send_21 (by omega) (by omega) ?_
    refine PU ?_ (MX.of hM)
    unfold sp_send
    first | exact (pif_t ⟨c5, c12⟩).trans ((pif_f (Int.not_lt.mpr c41)).trans (pif_f c57)) | exact (pif_t ⟨c5, c12⟩).trans ((pif_f (Int.not_lt.mpr c41)).trans (pif_t c57)) | exact (pif_t ⟨c5, c12⟩).trans (pif_t c41) | exact pif_f (fun h => c5 h.1) | exact pif_f (fun h => c12 h.2)
  ·
    refine j_iload_n hF dX8_send_8 rfl (j_callS hF (c_X8_isWorker (by omega)) ms_X8_isWorker mt_X8_isWorker lk_RX8_111 dX8_send_9 rfl rfl rfl (by simp [Value.category]) ⟨⟨(Nat.le_of_ble_eq_true rfl), (Nat.le_of_ble_eq_true rfl)⟩, by omega, by omega⟩ (fun v3 X3 hp3 hE3 => ?_))
    obtain ⟨rfl, he3⟩ := hp3; obtain rfl := he3.symm
    refine j_b_ne hF 22 dX8_send_12 (by decide) (fun c12 => ?_) (fun c12 => ?_)
    ·
      obtain ⟨⟨e1, e2⟩, -, -⟩ := hG.ed e c5.1 (by omega)
      have o1 := ho (r (17 + e)) e1 e2
      have m0 := hm (10 * w + e) (by omega) (by omega)
      refine j_aload_n hF dX8_send_22 rfl (j_get hF hM.1.1 fl_RX8_8 dX8_send_23 rfl (j_bipush hF dX8_send_26 (by decide) (j_aload_n hF dX8_send_28 rfl (j_get hF hM.1.1 fl_RX8_8 dX8_send_29 rfl (j_bipush hF dX8_send_32 (by decide) ?_)))))
      refine j_iload_n hF dX8_send_34 rfl (j_iadd hF dX8_send_35 (j_iald hF hM.1.2.1 dX8_send_36 (by omega) (fun ra4 rb4 => ?_)))
      refine j_iadd hF dX8_send_37 (j_iald hF hM.1.2.1 dX8_send_38 (by omega) (fun ra5 rb5 => ?_))
      refine j_istore_n hF dX8_send_39 (Nat.le_of_ble_eq_true rfl) rfl (j_iload_n hF dX8_send_40 rfl (j_if_ge hF 51 dX8_send_41 (by decide) (by omega) (fun c41 => ?_) (fun c41 => ?_)))
      ·
        refine j_aload_n hF dX8_send_51 rfl (j_iload_n hF dX8_send_52 rfl (j_iload_n hF dX8_send_53 rfl (j_callV hF (c_X8_isFullLine hM.1 (by omega) (by omega)) ms_X8_isFullLine mv_X8_isFullLine lk_RX8_114 dX8_send_54 hM.1.1 rfl rfl rfl (by simp [Value.category]) ⟨⟨(Nat.le_of_ble_eq_true rfl), (Nat.le_of_ble_eq_true rfl)⟩, by omega, by omega⟩ (fun v6 X6 hp6 hE6 => ?_))))
        obtain ⟨rfl, he6⟩ := hp6; obtain rfl := he6.symm
        refine j_b_eq hF 67 dX8_send_57 (by decide) (fun c57 => ?_) (fun c57 => ?_)
        ·
          refine j_aload_n hF dX8_send_67 rfl (j_callV hF (c_X8_saves hM.1 (by omega)) ms_X8_saves mv_X8_saves lk_RX8_56 dX8_send_68 hM.1.1 rfl rfl rfl (by simp [Value.category]) ⟨⟨(Nat.le_of_ble_eq_true rfl), (Nat.le_of_ble_eq_true rfl)⟩, by omega, by omega⟩ (fun v7 X7 hp7 hE7 => ?_))
          obtain ⟨rfl, hM1⟩ := hp7
          have hM := hM.tr hM1
          refine j_aload_n hF dX8_send_71 rfl (j_iload_n hF dX8_send_72 rfl (j_iload_n hF dX8_send_73 rfl (j_bipush hF dX8_send_74 (by decide) (j_iload_n hF dX8_send_76 rfl (j_imul hF dX8_send_77 ?_)))))
          refine j_callV hF (c_X8_puts hM.1 (by omega) (by omega) (by omega) (by omega)) ms_X8_puts mv_X8_puts lk_RX8_117 dX8_send_78 hM.1.1 rfl rfl rfl (by simp [Value.category]) ⟨⟨(Nat.le_of_ble_eq_true rfl), (Nat.le_of_ble_eq_true rfl)⟩, by omega, by omega⟩ (fun v8 X8 hp8 hE8 => ?_)
          obtain ⟨rfl, hM1⟩ := hp8
          have hM := hM.tr hM1
          refine j_aload_n hF dX8_send_81 rfl (j_iconst hF dX8_send_82 (j_bipush hF dX8_send_83 (by decide) (j_iload_n hF dX8_send_85 rfl (j_iadd hF dX8_send_86 (j_bipush hF dX8_send_87 (by decide) ?_)))))
          refine j_iload_n hF dX8_send_89 rfl (j_imul hF dX8_send_90 (j_iconst hF dX8_send_91 (j_callV hF (c_X8_updates (N := N) hM.1 (by omega) (by omega) (by omega) (by omega) (by omega) (hI.put (by omega) (by omega) (by omega))) ms_X8_updates mv_X8_updates lk_RX8_121 dX8_send_92 hM.1.1 rfl rfl rfl (by simp [Value.category]) ⟨⟨(Nat.le_of_ble_eq_true rfl), (Nat.le_of_ble_eq_true rfl)⟩, by omega, by omega⟩ (fun v9 X9 hp9 hE9 => ?_))))
          obtain ⟨rfl, hM1⟩ := hp9
          have hM := hM.tr hM1
          refine j_bipush hF dX8_send_95 (by decide) (j_iload_n hF dX8_send_97 rfl (j_imul hF dX8_send_98 (j_iret hF hR dX8_send_99 (by omega) (by omega) ?_)))
          refine PU ?_ (MX.of hM)
          unfold sp_send
          first | exact (pif_t ⟨c5, c12⟩).trans ((pif_f (Int.not_lt.mpr c41)).trans (pif_f c57)) | exact (pif_t ⟨c5, c12⟩).trans ((pif_f (Int.not_lt.mpr c41)).trans (pif_t c57)) | exact (pif_t ⟨c5, c12⟩).trans (pif_t c41) | exact pif_f (fun h => c5 h.1) | exact pif_f (fun h => c12 h.2)
        ·
          refine j_aload_n hF dX8_send_60 rfl (j_bipush hF dX8_send_61 (by decide) (j_callV hF (c_X8_fails hM.1 (by omega) hE) ms_X8_fails mv_X8_fails lk_RX8_52 dX8_send_63 hM.1.1 rfl rfl rfl (by simp [Value.category]) ⟨⟨(Nat.le_of_ble_eq_true rfl), (Nat.le_of_ble_eq_true rfl)⟩, by omega, by omega⟩ (fun v10 X10 hp10 hE10 => ?_)))
          obtain ⟨rfl, hM1⟩ := hp10
          have hM := hM.tr hM1
          refine j_iret hF hR dX8_send_66 (by omega) (by omega) ?_
          refine PU ?_ (MX.of hM)
          unfold sp_send
          first | exact (pif_t ⟨c5, c12⟩).trans ((pif_f (Int.not_lt.mpr c41)).trans (pif_f c57)) | exact (pif_t ⟨c5, c12⟩).trans ((pif_f (Int.not_lt.mpr c41)).trans (pif_t c57)) | exact (pif_t ⟨c5, c12⟩).trans (pif_t c41) | exact pif_f (fun h => c5 h.1) | exact pif_f (fun h => c12 h.2)
      ·
        refine j_aload_n hF dX8_send_44 rfl (j_bipush hF dX8_send_45 (by decide) (j_callV hF (c_X8_fails hM.1 (by omega) hE) ms_X8_fails mv_X8_fails lk_RX8_52 dX8_send_47 hM.1.1 rfl rfl rfl (by simp [Value.category]) ⟨⟨(Nat.le_of_ble_eq_true rfl), (Nat.le_of_ble_eq_true rfl)⟩, by omega, by omega⟩ (fun v11 X11 hp11 hE11 => ?_)))
        obtain ⟨rfl, hM1⟩ := hp11
        have hM := hM.tr hM1
        refine j_iret hF hR dX8_send_50 (by omega) (by omega) ?_
        refine PU ?_ (MX.of hM)
        unfold sp_send
        first | exact (pif_t ⟨c5, c12⟩).trans ((pif_f (Int.not_lt.mpr c41)).trans (pif_f c57)) | exact (pif_t ⟨c5, c12⟩).trans ((pif_f (Int.not_lt.mpr c41)).trans (pif_t c57)) | exact (pif_t ⟨c5, c12⟩).trans (pif_t c41) | exact pif_f (fun h => c5 h.1) | exact pif_f (fun h => c12 h.2)
    ·
      refine j_aload_n hF dX8_send_15 rfl (j_bipush hF dX8_send_16 (by decide) (j_callV hF (c_X8_fails hM.1 (by omega) hE) ms_X8_fails mv_X8_fails lk_RX8_52 dX8_send_18 hM.1.1 rfl rfl rfl (by simp [Value.category]) ⟨⟨(Nat.le_of_ble_eq_true rfl), (Nat.le_of_ble_eq_true rfl)⟩, by omega, by omega⟩ (fun v12 X12 hp12 hE12 => ?_)))
      obtain ⟨rfl, hM1⟩ := hp12
      have hM := hM.tr hM1
      refine j_iret hF hR dX8_send_21 (by omega) (by omega) ?_
      refine PU ?_ (MX.of hM)
      unfold sp_send
      first | exact (pif_t ⟨c5, c12⟩).trans ((pif_f (Int.not_lt.mpr c41)).trans (pif_f c57)) | exact (pif_t ⟨c5, c12⟩).trans ((pif_f (Int.not_lt.mpr c41)).trans (pif_t c57)) | exact (pif_t ⟨c5, c12⟩).trans (pif_t c41) | exact pif_f (fun h => c5 h.1) | exact pif_f (fun h => c12 h.2)

set_option maxRecDepth 100000 in
set_option maxHeartbeats 4000000 in
theorem c_X8_advance {X : Hp} {ad : Nat → Nat} {r pf : Int → Int} {sv : Int} {er sn lw rc wt : Int → Int} {wg : Int} {ls ac fi : Int → Int} {as : Int} {hh : Int64} (hM : MM X ad r pf sv er sn lw rc wt wg ls ac fi as hh) {n N : Int} (hG : GI r) (hE : EI er) (hI : RI r N) (hN : N + 12 < 8192) (hm : RM2 r) (hs : 0 ≤ sv ∧ sv ≤ 3) (ho : EO r) (h_n : -2147483648 ≤ n ∧ n ≤ 2147483647) : Ct yX8_advance cX8_advance 3 (some .int) 2 48 [.ref (ad 0), vi n] X 0 0 (fun rv X' => rv = some (vi (sp_advance (r, pf, sv, er) n).1) ∧ MX X X' ad (sp_advance (r, pf, sv, er) n).2) := by
  refine Ct.of (by decide +kernel) [some (.ref (ad 0)), some (vi n), none] rfl (Nat.le_of_ble_eq_true rfl) (fun φ hF hR => ?_)
  have hM := hM.g
  have g0 := hG.1
  refine j_aload_n hF dX8_advance_0 rfl (j_iload_n hF dX8_advance_1 rfl (j_callV hF (c_X8_isNode hM.1 hG (by omega)) ms_X8_isNode mv_X8_isNode lk_RX8_71 dX8_advance_2 hM.1.1 rfl rfl rfl (by simp [Value.category]) ⟨⟨(Nat.le_of_ble_eq_true rfl), (Nat.le_of_ble_eq_true rfl)⟩, by omega, by omega⟩ (fun v1 X1 hp1 hE1 => ?_)))
  obtain ⟨rfl, he1⟩ := hp1; obtain rfl := he1.symm
  refine j_b_ne hF 15 dX8_advance_5 (by decide) (fun c5 => ?_) (fun c5 => ?_)
  ·
    have o1 := ho n c5.1 (by omega)
    refine j_aload_n hF dX8_advance_15 rfl (j_get hF hM.1.1 fl_RX8_8 dX8_advance_16 rfl (j_bipush hF dX8_advance_19 (by decide) (j_iload_n hF dX8_advance_21 rfl (j_iadd hF dX8_advance_22 (j_iald hF hM.1.2.1 dX8_advance_23 (by omega) (fun ra2 rb2 => ?_))))))
    refine j_istore_n hF dX8_advance_24 (Nat.le_of_ble_eq_true rfl) rfl (j_iload_n hF dX8_advance_25 rfl (j_if_lt hF 35 dX8_advance_26 (by decide) (by omega) (fun c26 => ?_) (fun c26 => ?_)))
    ·
      refine j_aload_n hF dX8_advance_35 rfl (j_bipush hF dX8_advance_36 (by decide) (j_callV hF (c_X8_fails hM.1 (by omega) hE) ms_X8_fails mv_X8_fails lk_RX8_52 dX8_advance_38 hM.1.1 rfl rfl rfl (by simp [Value.category]) ⟨⟨(Nat.le_of_ble_eq_true rfl), (Nat.le_of_ble_eq_true rfl)⟩, by omega, by omega⟩ (fun v3 X3 hp3 hE3 => ?_)))
      obtain ⟨rfl, hM1⟩ := hp3
      have hM := hM.tr hM1
      refine j_iret hF hR dX8_advance_41 (by omega) (by omega) ?_
      refine PU ?_ (MX.of hM)
      unfold sp_advance
      first | exact (pif_t c5).trans (pif_t (Or.inl c26)) | exact (pif_t c5).trans (pif_t (Or.inr c32)) | exact (pif_t c5).trans (pif_f (fun h => h.elim (fun q => absurd q (Int.not_lt.mpr c26)) c32)) | exact pif_f c5
    ·
      refine j_iload_n hF dX8_advance_29 rfl (j_bipush hF dX8_advance_30 (by decide) (j_icmp_ne hF 42 dX8_advance_32 (by decide) (by omega) (fun c32 => ?_) (fun c32 => ?_)))
      ·
        refine j_aload_n hF dX8_advance_42 rfl (j_callV hF (c_X8_saves hM.1 (by omega)) ms_X8_saves mv_X8_saves lk_RX8_56 dX8_advance_43 hM.1.1 rfl rfl rfl (by simp [Value.category]) ⟨⟨(Nat.le_of_ble_eq_true rfl), (Nat.le_of_ble_eq_true rfl)⟩, by omega, by omega⟩ (fun v4 X4 hp4 hE4 => ?_))
        obtain ⟨rfl, hM1⟩ := hp4
        have hM := hM.tr hM1
        refine j_aload_n hF dX8_advance_46 rfl (j_get hF hM.1.1 fl_RX8_8 dX8_advance_47 rfl (j_bipush hF dX8_advance_50 (by decide) (j_iload_n hF dX8_advance_52 rfl (j_iadd hF dX8_advance_53 (j_iload_n hF dX8_advance_54 rfl ?_)))))
        refine j_iconst hF dX8_advance_55 (j_iadd hF dX8_advance_56 (j_iast hF hM.1.2.1 dX8_advance_57 (by omega) (by omega) (j_nm (fun X5 eX5 => ?_))))
        have hM := hM.u_r eX5
        refine j_aload_n hF dX8_advance_58 rfl (j_iconst hF dX8_advance_59 (j_iload_n hF dX8_advance_60 rfl (j_bipush hF dX8_advance_61 (by decide) (j_iload_n hF dX8_advance_63 rfl (j_iconst hF dX8_advance_64 ?_)))))
        refine j_iadd hF dX8_advance_65 (j_imul hF dX8_advance_66 (j_iconst hF dX8_advance_67 (j_callV hF (c_X8_updates (N := N) hM.1 (by omega) (by omega) (by omega) (by omega) (by omega) (RI.fu hI (by omega))) ms_X8_updates mv_X8_updates lk_RX8_121 dX8_advance_68 hM.1.1 rfl rfl rfl (by simp [Value.category]) ⟨⟨(Nat.le_of_ble_eq_true rfl), (Nat.le_of_ble_eq_true rfl)⟩, by omega, by omega⟩ (fun v6 X6 hp6 hE6 => ?_))))
        obtain ⟨rfl, hM1⟩ := hp6
        have hM := hM.tr hM1
        refine j_aload_n hF dX8_advance_71 rfl (j_iconst hF dX8_advance_72 (j_iload_n hF dX8_advance_73 rfl (j_bipush hF dX8_advance_74 (by decide) (j_iload_n hF dX8_advance_76 rfl (j_imul hF dX8_advance_77 ?_)))))
        refine j_iconst hF dX8_advance_78 (j_callV hF (c_X8_updates (N := N + 1) hM.1 (by omega) (by omega) (by omega) (by omega) (by omega) ((RI.fu hI (by omega)).up (by omega) (by omega) (by omega) (by omega) (by omega))) ms_X8_updates mv_X8_updates lk_RX8_121 dX8_advance_79 hM.1.1 rfl rfl rfl (by simp [Value.category]) ⟨⟨(Nat.le_of_ble_eq_true rfl), (Nat.le_of_ble_eq_true rfl)⟩, by omega, by omega⟩ (fun v7 X7 hp7 hE7 => ?_))
        obtain ⟨rfl, hM1⟩ := hp7
        have hM := hM.tr hM1
        refine j_iload_n hF dX8_advance_82 rfl (j_iconst hF dX8_advance_83 (j_iadd hF dX8_advance_84 (j_iret hF hR dX8_advance_85 (by omega) (by omega) ?_)))
        refine PU ?_ (MX.of hM)
        unfold sp_advance
        first | exact (pif_t c5).trans (pif_t (Or.inl c26)) | exact (pif_t c5).trans (pif_t (Or.inr c32)) | exact (pif_t c5).trans (pif_f (fun h => h.elim (fun q => absurd q (Int.not_lt.mpr c26)) c32)) | exact pif_f c5
      ·
        refine j_aload_n hF dX8_advance_35 rfl (j_bipush hF dX8_advance_36 (by decide) (j_callV hF (c_X8_fails hM.1 (by omega) hE) ms_X8_fails mv_X8_fails lk_RX8_52 dX8_advance_38 hM.1.1 rfl rfl rfl (by simp [Value.category]) ⟨⟨(Nat.le_of_ble_eq_true rfl), (Nat.le_of_ble_eq_true rfl)⟩, by omega, by omega⟩ (fun v8 X8 hp8 hE8 => ?_)))
        obtain ⟨rfl, hM1⟩ := hp8
        have hM := hM.tr hM1
        refine j_iret hF hR dX8_advance_41 (by omega) (by omega) ?_
        refine PU ?_ (MX.of hM)
        unfold sp_advance
        first | exact (pif_t c5).trans (pif_t (Or.inl c26)) | exact (pif_t c5).trans (pif_t (Or.inr c32)) | exact (pif_t c5).trans (pif_f (fun h => h.elim (fun q => absurd q (Int.not_lt.mpr c26)) c32)) | exact pif_f c5
  ·
    refine j_aload_n hF dX8_advance_8 rfl (j_bipush hF dX8_advance_9 (by decide) (j_callV hF (c_X8_fails hM.1 (by omega) hE) ms_X8_fails mv_X8_fails lk_RX8_52 dX8_advance_11 hM.1.1 rfl rfl rfl (by simp [Value.category]) ⟨⟨(Nat.le_of_ble_eq_true rfl), (Nat.le_of_ble_eq_true rfl)⟩, by omega, by omega⟩ (fun v9 X9 hp9 hE9 => ?_)))
    obtain ⟨rfl, hM1⟩ := hp9
    have hM := hM.tr hM1
    refine j_iret hF hR dX8_advance_14 (by omega) (by omega) ?_
    refine PU ?_ (MX.of hM)
    unfold sp_advance
    first | exact (pif_t c5).trans (pif_t (Or.inl c26)) | exact (pif_t c5).trans (pif_t (Or.inr c32)) | exact (pif_t c5).trans (pif_f (fun h => h.elim (fun q => absurd q (Int.not_lt.mpr c26)) c32)) | exact pif_f c5

set_option maxRecDepth 100000 in
set_option maxHeartbeats 4000000 in
theorem c_X8_close {X : Hp} {ad : Nat → Nat} {r pf : Int → Int} {sv : Int} {er sn lw rc wt : Int → Int} {wg : Int} {ls ac fi : Int → Int} {as : Int} {hh : Int64} (hM : MM X ad r pf sv er sn lw rc wt wg ls ac fi as hh) {n N : Int} (hG : GI r) (hE : EI er) (hI : RI r N) (hN : N + 12 < 8192) (hm : RM2 r) (hs : 0 ≤ sv ∧ sv ≤ 3) (ho : EO r) (h_n : -2147483648 ≤ n ∧ n ≤ 2147483647) : Ct yX8_close cX8_close 3 (some .int) 2 48 [.ref (ad 0), vi n] X 0 0 (fun rv X' => rv = some (vi (sp_close (r, pf, sv, er) n).1) ∧ MX X X' ad (sp_close (r, pf, sv, er) n).2) := by
  refine Ct.of (by decide +kernel) [some (.ref (ad 0)), some (vi n), none] rfl (Nat.le_of_ble_eq_true rfl) (fun φ hF hR => ?_)
  have hM := hM.g
  have g0 := hG.1
  refine j_aload_n hF dX8_close_0 rfl (j_iload_n hF dX8_close_1 rfl (j_callV hF (c_X8_isNode hM.1 hG (by omega)) ms_X8_isNode mv_X8_isNode lk_RX8_71 dX8_close_2 hM.1.1 rfl rfl rfl (by simp [Value.category]) ⟨⟨(Nat.le_of_ble_eq_true rfl), (Nat.le_of_ble_eq_true rfl)⟩, by omega, by omega⟩ (fun v1 X1 hp1 hE1 => ?_)))
  obtain ⟨rfl, he1⟩ := hp1; obtain rfl := he1.symm
  refine j_b_ne hF 15 dX8_close_5 (by decide) (fun c5 => ?_) (fun c5 => ?_)
  ·
    have o1 := ho n c5.1 (by omega)
    refine j_aload_n hF dX8_close_15 rfl (j_get hF hM.1.1 fl_RX8_8 dX8_close_16 rfl (j_bipush hF dX8_close_19 (by decide) (j_iload_n hF dX8_close_21 rfl (j_iadd hF dX8_close_22 (j_iald hF hM.1.2.1 dX8_close_23 (by omega) (fun ra2 rb2 => ?_))))))
    refine j_istore_n hF dX8_close_24 (Nat.le_of_ble_eq_true rfl) rfl (j_iload_n hF dX8_close_25 rfl (j_if_ge hF 36 dX8_close_26 (by decide) (by omega) (fun c26 => ?_) (fun c26 => ?_)))
    ·
      refine j_aload_n hF dX8_close_36 rfl (j_callV hF (c_X8_saves hM.1 (by omega)) ms_X8_saves mv_X8_saves lk_RX8_56 dX8_close_37 hM.1.1 rfl rfl rfl (by simp [Value.category]) ⟨⟨(Nat.le_of_ble_eq_true rfl), (Nat.le_of_ble_eq_true rfl)⟩, by omega, by omega⟩ (fun v3 X3 hp3 hE3 => ?_))
      obtain ⟨rfl, hM1⟩ := hp3
      have hM := hM.tr hM1
      refine j_aload_n hF dX8_close_40 rfl (j_get hF hM.1.1 fl_RX8_8 dX8_close_41 rfl (j_bipush hF dX8_close_44 (by decide) (j_iload_n hF dX8_close_46 rfl (j_iadd hF dX8_close_47 (j_bipush hF dX8_close_48 (by decide) ?_)))))
      refine j_iast hF hM.1.2.1 dX8_close_50 (by omega) (by omega) (j_nm (fun X4 eX4 => ?_))
      have hM := hM.u_r eX4
      refine j_aload_n hF dX8_close_51 rfl (j_iconst hF dX8_close_52 (j_iload_n hF dX8_close_53 rfl (j_bipush hF dX8_close_54 (by decide) (j_iload_n hF dX8_close_56 rfl (j_imul hF dX8_close_57 ?_)))))
      refine j_iconst hF dX8_close_58 (j_callV hF (c_X8_updates (N := N) hM.1 (by omega) (by omega) (by omega) (by omega) (by omega) (RI.fu hI (by omega))) ms_X8_updates mv_X8_updates lk_RX8_121 dX8_close_59 hM.1.1 rfl rfl rfl (by simp [Value.category]) ⟨⟨(Nat.le_of_ble_eq_true rfl), (Nat.le_of_ble_eq_true rfl)⟩, by omega, by omega⟩ (fun v5 X5 hp5 hE5 => ?_))
      obtain ⟨rfl, hM1⟩ := hp5
      have hM := hM.tr hM1
      refine j_iload_n hF dX8_close_62 rfl (j_iret hF hR dX8_close_63 (by omega) (by omega) ?_)
      refine PU ?_ (MX.of hM)
      unfold sp_close
      first | exact (pif_t c5).trans (pif_t c26) | exact (pif_t c5).trans (pif_f (Int.not_lt.mpr c26)) | exact pif_f c5
    ·
      refine j_aload_n hF dX8_close_29 rfl (j_bipush hF dX8_close_30 (by decide) (j_callV hF (c_X8_fails hM.1 (by omega) hE) ms_X8_fails mv_X8_fails lk_RX8_52 dX8_close_32 hM.1.1 rfl rfl rfl (by simp [Value.category]) ⟨⟨(Nat.le_of_ble_eq_true rfl), (Nat.le_of_ble_eq_true rfl)⟩, by omega, by omega⟩ (fun v6 X6 hp6 hE6 => ?_)))
      obtain ⟨rfl, hM1⟩ := hp6
      have hM := hM.tr hM1
      refine j_iret hF hR dX8_close_35 (by omega) (by omega) ?_
      refine PU ?_ (MX.of hM)
      unfold sp_close
      first | exact (pif_t c5).trans (pif_t c26) | exact (pif_t c5).trans (pif_f (Int.not_lt.mpr c26)) | exact pif_f c5
  ·
    refine j_aload_n hF dX8_close_8 rfl (j_bipush hF dX8_close_9 (by decide) (j_callV hF (c_X8_fails hM.1 (by omega) hE) ms_X8_fails mv_X8_fails lk_RX8_52 dX8_close_11 hM.1.1 rfl rfl rfl (by simp [Value.category]) ⟨⟨(Nat.le_of_ble_eq_true rfl), (Nat.le_of_ble_eq_true rfl)⟩, by omega, by omega⟩ (fun v7 X7 hp7 hE7 => ?_)))
    obtain ⟨rfl, hM1⟩ := hp7
    have hM := hM.tr hM1
    refine j_iret hF hR dX8_close_14 (by omega) (by omega) ?_
    refine PU ?_ (MX.of hM)
    unfold sp_close
    first | exact (pif_t c5).trans (pif_t c26) | exact (pif_t c5).trans (pif_f (Int.not_lt.mpr c26)) | exact pif_f c5

set_option maxRecDepth 100000 in
set_option maxHeartbeats 4000000 in
theorem c_X8_delivered {X : Hp} {ad : Nat → Nat} {r pf : Int → Int} {sv : Int} {er sn lw rc wt : Int → Int} {wg : Int} {ls ac fi : Int → Int} {as : Int} {hh : Int64} (hM : MM X ad r pf sv er sn lw rc wt wg ls ac fi as hh)  : Ct yX8_delivered cX8_delivered 1 (some .int) 0 0 [.ref (ad 0)] X 0 0 (fun rv X' => rv = some (vi (sp_delivered (r, pf, sv, er) ).1) ∧ MX X X' ad (sp_delivered (r, pf, sv, er) ).2) := by
  refine Ct.of (by decide +kernel) [some (.ref (ad 0))] rfl (Nat.le_of_ble_eq_true rfl) (fun φ hF hR => ?_)
  have hM := hM.g
  refine j_aload_n hF dX8_delivered_0 rfl (j_get hF hM.1.1 fl_RX8_8 dX8_delivered_1 rfl (j_iconst hF dX8_delivered_4 (j_iald hF hM.1.2.1 dX8_delivered_5 (by omega) (fun ra1 rb1 => ?_))))
  refine j_iret hF hR dX8_delivered_6 (by omega) (by omega) ?_
  exact PU (Z := sp_delivered (r, pf, sv, er)) rfl (MX.of hM)

set_option maxRecDepth 100000 in
set_option maxHeartbeats 4000000 in
theorem c_X8_violations {X : Hp} {ad : Nat → Nat} {r pf : Int → Int} {sv : Int} {er sn lw rc wt : Int → Int} {wg : Int} {ls ac fi : Int → Int} {as : Int} {hh : Int64} (hM : MM X ad r pf sv er sn lw rc wt wg ls ac fi as hh)  : Ct yX8_violations cX8_violations 1 (some .int) 0 0 [.ref (ad 0)] X 0 0 (fun rv X' => rv = some (vi (sp_violations (r, pf, sv, er) ).1) ∧ MX X X' ad (sp_violations (r, pf, sv, er) ).2) := by
  refine Ct.of (by decide +kernel) [some (.ref (ad 0))] rfl (Nat.le_of_ble_eq_true rfl) (fun φ hF hR => ?_)
  have hM := hM.g
  refine j_aload_n hF dX8_violations_0 rfl (j_get hF hM.1.1 fl_RX8_8 dX8_violations_1 rfl (j_iconst hF dX8_violations_4 (j_iald hF hM.1.2.1 dX8_violations_5 (by omega) (fun ra1 rb1 => ?_))))
  refine j_iret hF hR dX8_violations_6 (by omega) (by omega) ?_
  exact PU (Z := sp_violations (r, pf, sv, er)) rfl (MX.of hM)
