/-! process, deliver, receive -/
theorem m_take_n {r : Int → Int} {l i : Int} (hm : r (47 + l) ≤ 12) (h1 : i ≠ 47 + l) (h2 : i < 67 + 12 * l ∨ 67 + 12 * l + 11 < i) : m_take r l i = r i := by
  simp only [m_take, m_tk]
  rw [if_neg (by omega), fu_n h1]
theorem m_take_c {r : Int → Int} {l : Int} (hl : 0 ≤ l ∧ l < 20) : m_take r l (47 + l) = r (47 + l) - 1 := by
  simp only [m_take, m_tk]
  rw [if_neg (by omega), fu_s]
theorem m_take_m {r : Int → Int} {l i : Int} (hl : 0 ≤ l ∧ l < 20) (h1 : 67 + 12 * l ≤ i) (h2 : i < 67 + 12 * l + (r (47 + l) - 1)) : m_take r l i = r (i + 1) := by
  simp only [m_take, m_tk]
  rw [if_pos ⟨h1, h2⟩, fu_n (by omega)]
theorem GI.eq {r r' : Int → Int} (h : GI r) (e : ∀ i, 0 ≤ i → i < 47 → i ≠ 2 → i ≠ 3 → i ≠ 4 → (i < 11 ∨ 17 ≤ i) → r' i = r i) : GI r' := by
  obtain ⟨h1, h2, h3, h4⟩ := h
  refine ⟨?_, ?_, fun n n1 n2 => ?_, fun k k1 k2 => ?_⟩
  · rw [e 0 (by omega) (by omega) (by omega) (by omega) (by omega) (by omega)]; exact h1
  · rw [e 1 (by omega) (by omega) (by omega) (by omega) (by omega) (by omega)]; exact h2
  · rw [e (5 + n) (by omega) (by omega) (by omega) (by omega) (by omega) (by omega)]; exact h3 n n1 n2
  · rw [e (17 + k) (by omega) (by omega) (by omega) (by omega) (by omega) (by omega), e (27 + k) (by omega) (by omega) (by omega) (by omega) (by omega) (by omega), e (37 + k) (by omega) (by omega) (by omega) (by omega) (by omega) (by omega)]; exact h4 k k1 k2
theorem RI.eq {r r' : Int → Int} {N : Int} (h : RI r N) (e : ∀ i, 357 ≤ i → (i < 359 ∨ 6359 ≤ i) → i < 38359 → r' i = r i) : RI r' N := by
  obtain ⟨h1, h2, h3⟩ := h
  refine ⟨fun i a b => ?_, ?_, ?_⟩
  · rw [e i (by omega) (by omega) b]; exact h1 i a b
  · rw [e 357 (by omega) (by omega) (by omega)]; exact h2
  · rw [e 358 (by omega) (by omega) (by omega)]; exact h3
theorem RI.mono {r : Int → Int} {N M : Int} (h : RI r N) (hN : N ≤ M) : RI r M := by
  obtain ⟨h1, h2, h3⟩ := h
  exact ⟨fun i a b => by have := h1 i a b; omega, by omega, by omega⟩
theorem mv_rg2 {r : Int → Int} {e t : Int} (ht : 0 ≤ t ∧ t ≤ 999) : m_moved r e t = -1 ∨ (0 ≤ m_moved r e t ∧ m_moved r e t ≤ 999) := by
  unfold m_moved
  (repeat' split) <;> omega
def m_vio (r : Int → Int) (nd t : Int) : Prop := BE (fun e => r (359 + 1000 * nd + e) = 1 ∧ t / 100 ≤ e / 100 ∧ t % 100 ≤ e % 100) 1000
/-- a request, with its update -/
def m_rq (r : Int → Int) (w nd t : Int) : Int → Int := fu (fu r (309 + (12 * w + r (307 + w))) nd) (333 + (12 * w + r (307 + w))) t
def m_ask (r : Int → Int) (w nd t : Int) : Int → Int := m_upd (fu (m_rq r w nd t) (307 + w) (m_rq r w nd t (307 + w) + 1)) w nd t 1
noncomputable def m_proc1 (r : Int → Int) (w o tg q nd t : Int) : Int → Int :=
  if q = 1 then m_ask (m_pa w o tg t ((fu r 4 (r 4 + bz (m_vio r nd t))) 1).toNat (fu r 4 (r 4 + bz (m_vio r nd t)))) w nd t else m_pa w o tg t ((fu r 4 (r 4 + bz (m_vio r nd t))) 1).toNat (fu r 4 (r 4 + bz (m_vio r nd t)))
noncomputable def m_proc (r : Int → Int) (w e o tg q : Int) : Int → Int :=
  m_upd (if m_moved (m_take r (10 * w + e)) e (r (67 + 12 * (10 * w + e))) = -1 then m_take r (10 * w + e) else m_proc1 (m_take r (10 * w + e)) w o tg q (r (27 + e)) (m_moved (m_take r (10 * w + e)) e (r (67 + 12 * (10 * w + e))))) w (6 + e) (r (67 + 12 * (10 * w + e))) (-1)
def MTM (r : Int → Int) : Prop := ∀ i, 0 ≤ i → i < 240 → 0 ≤ r (67 + i) ∧ r (67 + i) ≤ 999
def VC (r : Int → Int) : Prop := (0 ≤ r 3 ∧ r 3 ≤ 1000000) ∧ 0 ≤ r 4 ∧ r 4 ≤ 1000000
noncomputable def sp_process (σ : St) (w e o tg q : Int) : Int × St :=
  pif ((((((0 ≤ w ∧ w ≤ 1) ∧ 0 ≤ e ∧ e ≤ σ.1 1 - 1) ∧ 0 ≤ tg ∧ tg ≤ 1) ∧ 0 ≤ q ∧ q ≤ 1)) ∧ 0 ≤ o ∧ o ≤ pw (σ.1 1) - 1)
    (pif (σ.1 (47 + (10 * w + e)) = 0 ∨ ¬ BA (fun x => hb o x → σ.1 (17 + x) = σ.1 (27 + e)) (σ.1 1)) (sp_fail σ (-3))
      (pif (BE (fun x => hb o x ∧ σ.1 (47 + (10 * tg + x)) = 12) (σ.1 1) ∨ (q = 1 ∧ σ.1 (307 + w) = 12)) (sp_fail σ (-4))
        (m_moved (m_take σ.1 (10 * w + e)) e (σ.1 (67 + 12 * (10 * w + e))), sp_new σ (m_proc σ.1 w e o tg q))))
    (sp_fail σ (-2))
/-- the first of the requests that is to be delivered -/
def m_sf (r : Int → Int) (a b : Int) : Int → Int := fun j => if (309 + a ≤ j ∧ j < 309 + b) ∨ (333 + a ≤ j ∧ j < 333 + b) then r (j + 1) else r j
theorem m_sf_0 (r : Int → Int) (a : Int) : m_sf r a a = r := by funext j; simp only [m_sf]; split <;> first | rfl | omega
theorem m_sf_s (r : Int → Int) (a k : Int) (h1 : 0 ≤ a) (h : a ≤ k) (h2 : k < 23) : fu (fu (m_sf r a k) (309 + k) (m_sf r a k (309 + k + 1))) (333 + k) ((fu (m_sf r a k) (309 + k) (m_sf r a k (309 + k + 1))) (333 + k + 1)) = m_sf r a (k + 1) := by
  funext j
  rw [fu_n (show (333 : Int) + k + 1 ≠ 309 + k by omega)]
  simp only [fu, m_sf]
  (repeat' split) <;> first | rfl | omega | (congr 1; omega)
def FX (r : Int → Int) (w nd t a : Int) : Prop := (12 * w ≤ a ∧ a < 12 * w + r (307 + w)) ∧ (r (309 + a) = nd ∧ r (333 + a) = t) ∧ ∀ x, 12 * w ≤ x → x < a → ¬ (r (309 + x) = nd ∧ r (333 + x) = t)
theorem FX.uniq {r : Int → Int} {w nd t a b : Int} (h : FX r w nd t a) (g : FX r w nd t b) : a = b := by
  obtain ⟨h1, h2, h3⟩ := h
  obtain ⟨g1, g2, g3⟩ := g
  rcases (show a < b ∨ a = b ∨ b < a by omega) with q | q | q
  · exact absurd h2 (g3 a h1.1 q)
  · exact q
  · exact absurd g2 (h3 b g1.1 q)
noncomputable def fix (r : Int → Int) (w nd t : Int) : Int := @dite Int (∃ v, FX r w nd t v) (Classical.propDecidable _) (fun h => Classical.choose h) (fun _ => -1)
theorem fix_eq {r : Int → Int} {w nd t v : Int} (h : FX r w nd t v) : fix r w nd t = v := by
  have hx : ∃ v, FX r w nd t v := ⟨v, h⟩
  unfold fix
  rw [dif_pos hx]
  exact (Classical.choose_spec hx).uniq h
/-- a request taken out -/
noncomputable def m_out (r : Int → Int) (w nd t : Int) : Int → Int := m_sf (fu r (307 + w) (r (307 + w) - 1)) (fix r w nd t) (12 * w + (r (307 + w) - 1))
noncomputable def m_del0 (r : Int → Int) (w nd t : Int) : Int → Int := fu (fu (m_out r w nd t) 3 (m_out r w nd t 3 + 1)) (359 + 1000 * nd + t) 1
noncomputable def m_del (r : Int → Int) (w nd o tg t : Int) : Int → Int := m_upd (m_pa w o tg t (m_del0 r w nd t 1).toNat (m_del0 r w nd t)) w nd t (-1)
noncomputable def sp_deliver (σ : St) (w nd o tg : Int) : Int × St :=
  pif ((((0 ≤ w ∧ w ≤ 1) ∧ 0 ≤ nd ∧ nd ≤ σ.1 0 - 1) ∧ 0 ≤ tg ∧ tg ≤ 1) ∧ 0 ≤ o ∧ o ≤ pw (σ.1 1) - 1)
    (pif (nxt σ.1 w nd = -1 ∨ ¬ BA (fun x => hb o x → σ.1 (17 + x) = nd) (σ.1 1)) (sp_fail σ (-3))
      (pif (BE (fun x => hb o x ∧ σ.1 (47 + (10 * tg + x)) = 12) (σ.1 1)) (sp_fail σ (-4))
        (nxt σ.1 w nd, sp_new σ (m_del σ.1 w nd o tg (nxt σ.1 w nd)))))
    (sp_fail σ (-2))
def QI (r : Int → Int) : Prop := ∀ i, 0 ≤ i → i < 16384 → 0 ≤ r (38359 + i) ∧ r (38359 + i) < 32000
def m_rc (r : Int → Int) (w : Int) : Nat → (Int → Int)
  | 0 => r
  | n + 1 => fu (m_rc r w n) (6359 + 16000 * w + (m_rc r w n (38359 + 8192 * w + n)) / 2) (m_rc r w n (6359 + 16000 * w + (m_rc r w n (38359 + 8192 * w + n)) / 2) + (if m_rc r w n (38359 + 8192 * w + n) % 2 = 1 then 1 else -1))
theorem m_rc_inv {r : Int → Int} {w N : Int} (hI : RI r N) (hQ : QI r) (hw : 0 ≤ w ∧ w ≤ 1) (hN : 0 ≤ N) : ∀ n : Nat, n ≤ 8192 → (∀ i, i < 6359 ∨ 38359 ≤ i → m_rc r w n i = r i) ∧ (∀ i, 6359 ≤ i → i < 38359 → -(10 * N + n) ≤ m_rc r w n i ∧ m_rc r w n i ≤ 10 * N + n)
  | 0, _ => ⟨fun i _ => rfl, fun i a b => by have := hI.1 i a b; simp only [m_rc]; omega⟩
  | n + 1, hn => by
    obtain ⟨h1, h2⟩ := m_rc_inv hI hQ hw hN n (by omega)
    have e1 := h1 (38359 + 8192 * w + n) (by omega)
    have q1 := hQ (8192 * w + n) (by omega) (by omega)
    rw [show (38359 : Int) + (8192 * w + n) = 38359 + 8192 * w + n by omega] at q1
    have v1 := h2 (6359 + 16000 * w + (m_rc r w n (38359 + 8192 * w + n)) / 2) (by omega) (by omega)
    simp only [m_rc]
    refine ⟨fun i a => ?_, fun i a b => ?_⟩
    · rw [fu_n (by omega)]; exact h1 i a
    · have v2 := h2 i a b
      unfold fu
      split
      · split <;> omega
      · omega
/-- the rest of a queue moves up -/
def m_qs (r : Int → Int) (q n k : Int) : Int → Int := fun j => if q ≤ j ∧ j < q + k then r (j + n) else r j
theorem m_qs_0 (r : Int → Int) (q n : Int) : m_qs r q n 0 = r := by funext j; simp only [m_qs]; split <;> first | rfl | omega
theorem m_qs_s (r : Int → Int) (q n k : Int) (h : 0 ≤ k) (hn : 0 ≤ n) : fu (m_qs r q n k) (q + k) (m_qs r q n k (q + n + k)) = m_qs r q n (k + 1) := by
  funext j
  simp only [fu, m_qs]
  (repeat' split) <;> first | rfl | omega | (congr 1; omega)
def m_cnt (r : Int → Int) (w c : Int) : Int := if r (357 + w) < c then r (357 + w) else c
def m_rv1 (r : Int → Int) (w n : Int) : Int → Int := fu (m_rc r w n.toNat) (357 + w) (m_rc r w n.toNat (357 + w) - n)
def m_rv (r : Int → Int) (w n : Int) : Int → Int := m_qs (m_rv1 r w n) (38359 + 8192 * w) n (m_rv1 r w n (357 + w))
noncomputable def sp_receive (σ : St) (w c : Int) : Int × St := pif ((0 ≤ w ∧ w ≤ 1) ∧ 1 ≤ c ∧ c ≤ 99) (m_cnt σ.1 w c, sp_new σ (m_rv σ.1 w (m_cnt σ.1 w c))) (sp_fail σ (-2))
set_option maxRecDepth 100000 in
set_option maxHeartbeats 4000000 in
theorem c_X8_receive {X : Hp} {ad : Nat → Nat} {r pf : Int → Int} {sv : Int} {er sn lw rc wt : Int → Int} {wg : Int} {ls ac fi : Int → Int} {as : Int} {hh : Int64} (hM : MM X ad r pf sv er sn lw rc wt wg ls ac fi as hh) {w c N : Int} (hE : EI er) (hI : RI r N) (hN : N < 8192) (hs : 0 ≤ sv ∧ sv ≤ 3) (hQ : QI r) (h_w : -2147483648 ≤ w ∧ w ≤ 2147483647) (h_c : -2147483648 ≤ c ∧ c ≤ 2147483647) : Ct yX8_receive cX8_receive 7 (some .int) 2 42 [.ref (ad 0), vi w, vi c] X 0 0 (fun rv X' => rv = some (vi (sp_receive (r, pf, sv, er) w c).1) ∧ MX X X' ad (sp_receive (r, pf, sv, er) w c).2) := by
  refine Ct.of (by decide +kernel) [some (.ref (ad 0)), some (vi w), some (vi c), none, none, none, none] rfl (Nat.le_of_ble_eq_true rfl) (fun φ hF hR => ?_)
  have hM := hM.g
  have hN0 : 0 ≤ N := by have := hI.2.1; omega
  have hq : ∀ w, 0 ≤ w → w < 2 → 0 ≤ r (357 + w) ∧ r (357 + w) ≤ N := fun w w1 w2 => by
    rcases (show w = 0 ∨ w = 1 by omega) with rfl | rfl
    · exact hI.2.1
    · exact hI.2.2
  refine j_iload_n hF dX8_receive_0 rfl (j_callS hF (c_X8_isWorker (by omega)) ms_X8_isWorker mt_X8_isWorker lk_RX8_111 dX8_receive_1 rfl rfl rfl (by simp [Value.category]) ⟨⟨(Nat.le_of_ble_eq_true rfl), (Nat.le_of_ble_eq_true rfl)⟩, by omega, by omega⟩ (fun v1 X1 hp1 hE1 => ?_))
  obtain ⟨rfl, he1⟩ := hp1; obtain rfl := he1.symm
  refine j_b_eq hF 17 dX8_receive_4 (by decide) (fun c4 => ?_) (fun c4 => ?_)
  ·
    refine j_aload_n hF dX8_receive_17 rfl (j_bipush hF dX8_receive_18 (by decide) (j_callV hF (c_X8_fails hM.1 (by omega) hE) ms_X8_fails mv_X8_fails lk_RX8_52 dX8_receive_20 hM.1.1 rfl rfl rfl (by simp [Value.category]) ⟨⟨(Nat.le_of_ble_eq_true rfl), (Nat.le_of_ble_eq_true rfl)⟩, by omega, by omega⟩ (fun v2 X2 hp2 hE2 => ?_)))
    obtain ⟨rfl, hM1⟩ := hp2
    have hM := hM.tr hM1
    refine j_iret hF hR dX8_receive_23 (by omega) (by omega) ?_
    refine PU ?_ (MX.of hM)
    unfold sp_receive
    first | exact pif_f (fun h => c4 h.1) | exact pif_f (fun h => c14 h.2)
  ·
    refine j_iload_n hF dX8_receive_7 rfl (j_iconst hF dX8_receive_8 (j_bipush hF dX8_receive_9 (by decide) (j_callS hF (c_X8_within (by omega)) ms_X8_within mt_X8_within lk_RX8_43 dX8_receive_11 rfl rfl rfl (by simp [Value.category]) ⟨⟨(Nat.le_of_ble_eq_true rfl), (Nat.le_of_ble_eq_true rfl)⟩, by omega, by omega⟩ (fun v3 X3 hp3 hE3 => ?_))))
    obtain ⟨rfl, he3⟩ := hp3; obtain rfl := he3.symm
    refine j_b_ne hF 24 dX8_receive_14 (by decide) (fun c14 => ?_) (fun c14 => ?_)
    ·
      refine j_aload_n hF dX8_receive_24 rfl (j_callV hF (c_X8_saves hM.1 (by omega)) ms_X8_saves mv_X8_saves lk_RX8_56 dX8_receive_25 hM.1.1 rfl rfl rfl (by simp [Value.category]) ⟨⟨(Nat.le_of_ble_eq_true rfl), (Nat.le_of_ble_eq_true rfl)⟩, by omega, by omega⟩ (fun v4 X4 hp4 hE4 => ?_))
      obtain ⟨rfl, hM1⟩ := hp4
      have hM := hM.tr hM1
      refine j_aload_n hF dX8_receive_28 rfl (j_get hF hM.1.1 fl_RX8_8 dX8_receive_29 rfl (j_sipush hF dX8_receive_32 (by decide) (j_iload_n hF dX8_receive_35 rfl (j_iadd hF dX8_receive_36 (j_iald hF hM.1.2.1 dX8_receive_37 (by omega) (fun ra5 rb5 => ?_))))))
      refine j_iload_n hF dX8_receive_38 rfl (j_icmp_ge hF 55 dX8_receive_39 (by decide) (by omega) (fun c39 => ?_) (fun c39 => ?_))
      ·
        refine j_iload_n hF dX8_receive_55 rfl ?_
        have J56 : ∀ (m : Int) (Y : Hp), m = m_cnt r w c → (0 ≤ m ∧ m ≤ 99) → m ≤ r (357 + w) → MG X Y ad r (sv_p r pf sv) (sv_n sv) er sn lw rc wt wg ls ac fi as hh → Jd φ Y 0 0 56 [some (.ref (ad 0)), some (vi w), some (vi c), none, none, none, none] [vi m] := by
          intro m Y em hm0 hm1 hM
          have q0 := hq w c4.1 (by omega)
          refine j_istore_n hF dX8_receive_56 (Nat.le_of_ble_eq_true rfl) rfl (j_ldc hF kc_RX8_107 dX8_receive_57 (j_sipush hF dX8_receive_59 (by decide) (j_iload_n hF dX8_receive_62 rfl (j_imul hF dX8_receive_63 (j_iadd hF dX8_receive_64 ?_)))))
          refine j_istore hF dX8_receive_65 (Nat.le_of_ble_eq_true rfl) rfl (j_iconst hF dX8_receive_67 (j_istore hF dX8_receive_68 (Nat.le_of_ble_eq_true rfl) rfl ?_))
          have L70 : ∀ (n : Nat) (k : Int) (Y : Hp), (m - k).toNat < n → 0 ≤ k ∧ k ≤ m → MG X Y ad (m_rc r w k.toNat) (sv_p r pf sv) (sv_n sv) er sn lw rc wt wg ls ac fi as hh → Jd φ Y 0 0 70 [some (.ref (ad 0)), some (vi w), some (vi c), some (vi m), some (vi (38359 + 8192 * w)), some (vi k), none] [] := by
            intro n
            induction n with
            | zero => intro k Y hfu; exact absurd hfu (by omega)
            | succ n ih =>
              intro k Y hfu hk hM
              obtain ⟨i1, i2⟩ := m_rc_inv hI hQ c4 hN0 k.toNat (by omega)
              refine j_iload hF dX8_receive_70 rfl (j_iload_n hF dX8_receive_72 rfl (j_icmp_ge hF 129 dX8_receive_73 (by decide) (by omega) (fun c73 => ?_) (fun c73 => ?_)))
              ·
                refine j_aload_n hF dX8_receive_129 rfl (j_get hF hM.1.1 fl_RX8_8 dX8_receive_130 rfl (j_sipush hF dX8_receive_133 (by decide) (j_iload_n hF dX8_receive_136 rfl (j_iadd hF dX8_receive_137 (j_dup2 hF dX8_receive_138 rfl rfl ?_)))))
                refine j_iald hF hM.1.2.1 dX8_receive_139 (by omega) (fun ra1 rb1 => ?_)
                have e3 := i1 (357 + w) (by omega)
                refine j_iload_n hF dX8_receive_140 rfl (j_isub hF dX8_receive_141 (j_iast hF hM.1.2.1 dX8_receive_142 (by omega) (by omega) (j_nm (fun X2 eX2 => ?_))))
                have hM := hM.u_r eX2
                refine j_iconst hF dX8_receive_143 (j_istore hF dX8_receive_144 (Nat.le_of_ble_eq_true rfl) rfl ?_)
                refine j_unset 6 ?_
                have ek : m = k := by omega
                subst ek
                have e9 : m_rv1 r w m (357 + w) = r (357 + w) - m := by unfold m_rv1; rw [fu_s, i1 _ (by omega)]
                have L146 : ∀ (n : Nat) (k : Int) (Y : Hp), (m_rv1 r w m (357 + w) - k).toNat < n → 0 ≤ k ∧ k ≤ m_rv1 r w m (357 + w) → MG X Y ad (m_qs (m_rv1 r w m) (38359 + 8192 * w) m k) (sv_p r pf sv) (sv_n sv) er sn lw rc wt wg ls ac fi as hh → Jd φ Y 0 0 146 [some (.ref (ad 0)), some (vi w), some (vi c), some (vi m), some (vi (38359 + 8192 * w)), some (vi k), none] [] := by
                  intro n
                  induction n with
                  | zero => intro k Y hfu; exact absurd hfu (by omega)
                  | succ n ih =>
                    intro k Y hfu hk hM
                    refine j_iload hF dX8_receive_146 rfl (j_aload_n hF dX8_receive_148 rfl (j_get hF hM.1.1 fl_RX8_8 dX8_receive_149 rfl (j_sipush hF dX8_receive_152 (by decide) (j_iload_n hF dX8_receive_155 rfl (j_iadd hF dX8_receive_156 ?_)))))
                    refine j_iald hF hM.1.2.1 dX8_receive_157 (by omega) (fun ra1 rb1 => ?_)
                    have e1 : m_qs (m_rv1 r w m) (38359 + 8192 * w) m k (357 + w) = m_rv1 r w m (357 + w) := by simp only [m_qs]; rw [if_neg (by omega)]
                    refine j_icmp_ge hF 189 dX8_receive_158 (by decide) (by omega) (fun c158 => ?_) (fun c158 => ?_)
                    ·
                      refine j_iload_n hF dX8_receive_189 rfl (j_iret hF hR dX8_receive_190 (by omega) (by omega) ?_)
                      refine PU ?_ (MX.of hM)
                      unfold sp_receive
                      refine (pif_t ⟨c4, c14⟩).trans ?_
                      rw [← em]
                      have ek : k = m_rv1 r w m (357 + w) := by omega
                      subst ek
                      rfl
                    ·
                      refine j_aload_n hF dX8_receive_161 rfl (j_get hF hM.1.1 fl_RX8_8 dX8_receive_162 rfl (j_iload hF dX8_receive_165 rfl (j_iload hF dX8_receive_167 rfl (j_iadd hF dX8_receive_169 (j_aload_n hF dX8_receive_170 rfl ?_)))))
                      refine j_get hF hM.1.1 fl_RX8_8 dX8_receive_171 rfl (j_iload hF dX8_receive_174 rfl (j_iload_n hF dX8_receive_176 rfl (j_iadd hF dX8_receive_177 (j_iload hF dX8_receive_178 rfl (j_iadd hF dX8_receive_180 ?_)))))
                      refine j_iald hF hM.1.2.1 dX8_receive_181 (by omega) (fun ra2 rb2 => ?_)
                      refine j_iast hF hM.1.2.1 dX8_receive_182 (by omega) (by omega) (j_nm (fun X3 eX3 => ?_))
                      have hM := hM.u_r eX3
                      refine j_iinc hF dX8_receive_183 rfl (Nat.le_of_ble_eq_true rfl) rfl (j_goto hF 146 dX8_receive_186 (by decide) ?_)
                      refine ih (k + 1) _ (by omega) (by omega) ?_
                      rw [← m_qs_s _ _ _ _ hk.1 hm0.1]
                      exact hM
                exact L146 (8192 + 1) 0 _ (by omega) (by omega) (by rw [m_qs_0]; exact hM)
              ·
                refine j_aload_n hF dX8_receive_76 rfl (j_get hF hM.1.1 fl_RX8_8 dX8_receive_77 rfl (j_iload hF dX8_receive_80 rfl (j_iload hF dX8_receive_82 rfl (j_iadd hF dX8_receive_84 (j_iald hF hM.1.2.1 dX8_receive_85 (by omega) (fun ra3 rb3 => ?_))))))
                have e1 := i1 (38359 + 8192 * w + k) (by omega)
                have q1 := hQ (8192 * w + k) (by omega) (by omega)
                rw [show (38359 : Int) + (8192 * w + k) = 38359 + 8192 * w + k by omega] at q1
                refine j_istore hF dX8_receive_86 (Nat.le_of_ble_eq_true rfl) rfl (j_aload_n hF dX8_receive_88 rfl (j_get hF hM.1.1 fl_RX8_8 dX8_receive_89 rfl (j_sipush hF dX8_receive_92 (by decide) (j_sipush hF dX8_receive_95 (by decide) (j_iload_n hF dX8_receive_98 rfl ?_)))))
                refine j_imul hF dX8_receive_99 (j_iadd hF dX8_receive_100 (j_iload hF dX8_receive_101 rfl (j_iconst hF dX8_receive_103 (j_idiv hF dX8_receive_104 (by omega) (j_iadd hF dX8_receive_105 ?_)))))
                refine j_dup2 hF dX8_receive_106 rfl rfl (j_iald hF hM.1.2.1 dX8_receive_107 (by omega) (fun ra4 rb4 => ?_))
                have v1 := i2 (6359 + 16000 * w + m_rc r w k.toNat (38359 + 8192 * w + k) / 2) (by omega) (by omega)
                refine j_iload hF dX8_receive_108 rfl (j_iconst hF dX8_receive_110 (j_irem hF dX8_receive_111 (by omega) (j_iconst hF dX8_receive_112 (j_icmp_ne hF 120 dX8_receive_113 (by decide) (by omega) (fun c113 => ?_) (fun c113 => ?_)))))
                ·
                  refine j_iconst hF dX8_receive_120 (j_iadd hF dX8_receive_121 (j_iast hF hM.1.2.1 dX8_receive_122 (by omega) (by omega) (j_nm (fun X5 eX5 => ?_))))
                  have hM := hM.u_r eX5
                  refine j_iinc hF dX8_receive_123 rfl (Nat.le_of_ble_eq_true rfl) rfl (j_goto hF 70 dX8_receive_126 (by decide) ?_)
                  refine j_unset 6 (ih (k + 1) _ (by omega) (by omega) ?_)
                  rw [show (k + 1).toNat = k.toNat + 1 by omega]
                  simp only [m_rc]
                  rw [show ((k.toNat : Nat) : Int) = k by omega]
                  first | (rw [if_pos c113]; exact hM) | (rw [if_neg c113]; exact hM)
                ·
                  refine j_iconst hF dX8_receive_116 (j_goto hF 121 dX8_receive_117 (by decide) (j_iadd hF dX8_receive_121 (j_iast hF hM.1.2.1 dX8_receive_122 (by omega) (by omega) (j_nm (fun X6 eX6 => ?_)))))
                  have hM := hM.u_r eX6
                  refine j_iinc hF dX8_receive_123 rfl (Nat.le_of_ble_eq_true rfl) rfl (j_goto hF 70 dX8_receive_126 (by decide) ?_)
                  refine j_unset 6 (ih (k + 1) _ (by omega) (by omega) ?_)
                  rw [show (k + 1).toNat = k.toNat + 1 by omega]
                  simp only [m_rc]
                  rw [show ((k.toNat : Nat) : Int) = k by omega]
                  first | (rw [if_pos c113]; exact hM) | (rw [if_neg c113]; exact hM)
          exact L70 (100) 0 _ (by omega) (by omega) hM
        have q0 := hq w c4.1 (by omega)
        exact J56 _ _ (by unfold m_cnt; rw [if_neg (Int.not_lt.mpr c39)]) (by omega) (by omega) hM
      ·
        refine j_aload_n hF dX8_receive_42 rfl (j_get hF hM.1.1 fl_RX8_8 dX8_receive_43 rfl (j_sipush hF dX8_receive_46 (by decide) (j_iload_n hF dX8_receive_49 rfl (j_iadd hF dX8_receive_50 (j_iald hF hM.1.2.1 dX8_receive_51 (by omega) (fun ra6 rb6 => ?_))))))
        refine j_goto hF 56 dX8_receive_52 (by decide) ?_
        have J56 : ∀ (m : Int) (Y : Hp), m = m_cnt r w c → (0 ≤ m ∧ m ≤ 99) → m ≤ r (357 + w) → MG X Y ad r (sv_p r pf sv) (sv_n sv) er sn lw rc wt wg ls ac fi as hh → Jd φ Y 0 0 56 [some (.ref (ad 0)), some (vi w), some (vi c), none, none, none, none] [vi m] := by
          intro m Y em hm0 hm1 hM
          have q0 := hq w c4.1 (by omega)
          refine j_istore_n hF dX8_receive_56 (Nat.le_of_ble_eq_true rfl) rfl (j_ldc hF kc_RX8_107 dX8_receive_57 (j_sipush hF dX8_receive_59 (by decide) (j_iload_n hF dX8_receive_62 rfl (j_imul hF dX8_receive_63 (j_iadd hF dX8_receive_64 ?_)))))
          refine j_istore hF dX8_receive_65 (Nat.le_of_ble_eq_true rfl) rfl (j_iconst hF dX8_receive_67 (j_istore hF dX8_receive_68 (Nat.le_of_ble_eq_true rfl) rfl ?_))
          have L70 : ∀ (n : Nat) (k : Int) (Y : Hp), (m - k).toNat < n → 0 ≤ k ∧ k ≤ m → MG X Y ad (m_rc r w k.toNat) (sv_p r pf sv) (sv_n sv) er sn lw rc wt wg ls ac fi as hh → Jd φ Y 0 0 70 [some (.ref (ad 0)), some (vi w), some (vi c), some (vi m), some (vi (38359 + 8192 * w)), some (vi k), none] [] := by
            intro n
            induction n with
            | zero => intro k Y hfu; exact absurd hfu (by omega)
            | succ n ih =>
              intro k Y hfu hk hM
              obtain ⟨i1, i2⟩ := m_rc_inv hI hQ c4 hN0 k.toNat (by omega)
              refine j_iload hF dX8_receive_70 rfl (j_iload_n hF dX8_receive_72 rfl (j_icmp_ge hF 129 dX8_receive_73 (by decide) (by omega) (fun c73 => ?_) (fun c73 => ?_)))
              ·
                refine j_aload_n hF dX8_receive_129 rfl (j_get hF hM.1.1 fl_RX8_8 dX8_receive_130 rfl (j_sipush hF dX8_receive_133 (by decide) (j_iload_n hF dX8_receive_136 rfl (j_iadd hF dX8_receive_137 (j_dup2 hF dX8_receive_138 rfl rfl ?_)))))
                refine j_iald hF hM.1.2.1 dX8_receive_139 (by omega) (fun ra1 rb1 => ?_)
                have e3 := i1 (357 + w) (by omega)
                refine j_iload_n hF dX8_receive_140 rfl (j_isub hF dX8_receive_141 (j_iast hF hM.1.2.1 dX8_receive_142 (by omega) (by omega) (j_nm (fun X2 eX2 => ?_))))
                have hM := hM.u_r eX2
                refine j_iconst hF dX8_receive_143 (j_istore hF dX8_receive_144 (Nat.le_of_ble_eq_true rfl) rfl ?_)
                refine j_unset 6 ?_
                have ek : m = k := by omega
                subst ek
                have e9 : m_rv1 r w m (357 + w) = r (357 + w) - m := by unfold m_rv1; rw [fu_s, i1 _ (by omega)]
                have L146 : ∀ (n : Nat) (k : Int) (Y : Hp), (m_rv1 r w m (357 + w) - k).toNat < n → 0 ≤ k ∧ k ≤ m_rv1 r w m (357 + w) → MG X Y ad (m_qs (m_rv1 r w m) (38359 + 8192 * w) m k) (sv_p r pf sv) (sv_n sv) er sn lw rc wt wg ls ac fi as hh → Jd φ Y 0 0 146 [some (.ref (ad 0)), some (vi w), some (vi c), some (vi m), some (vi (38359 + 8192 * w)), some (vi k), none] [] := by
                  intro n
                  induction n with
                  | zero => intro k Y hfu; exact absurd hfu (by omega)
                  | succ n ih =>
                    intro k Y hfu hk hM
                    refine j_iload hF dX8_receive_146 rfl (j_aload_n hF dX8_receive_148 rfl (j_get hF hM.1.1 fl_RX8_8 dX8_receive_149 rfl (j_sipush hF dX8_receive_152 (by decide) (j_iload_n hF dX8_receive_155 rfl (j_iadd hF dX8_receive_156 ?_)))))
                    refine j_iald hF hM.1.2.1 dX8_receive_157 (by omega) (fun ra1 rb1 => ?_)
                    have e1 : m_qs (m_rv1 r w m) (38359 + 8192 * w) m k (357 + w) = m_rv1 r w m (357 + w) := by simp only [m_qs]; rw [if_neg (by omega)]
                    refine j_icmp_ge hF 189 dX8_receive_158 (by decide) (by omega) (fun c158 => ?_) (fun c158 => ?_)
                    ·
                      refine j_iload_n hF dX8_receive_189 rfl (j_iret hF hR dX8_receive_190 (by omega) (by omega) ?_)
                      refine PU ?_ (MX.of hM)
                      unfold sp_receive
                      refine (pif_t ⟨c4, c14⟩).trans ?_
                      rw [← em]
                      have ek : k = m_rv1 r w m (357 + w) := by omega
                      subst ek
                      rfl
                    ·
                      refine j_aload_n hF dX8_receive_161 rfl (j_get hF hM.1.1 fl_RX8_8 dX8_receive_162 rfl (j_iload hF dX8_receive_165 rfl (j_iload hF dX8_receive_167 rfl (j_iadd hF dX8_receive_169 (j_aload_n hF dX8_receive_170 rfl ?_)))))
                      refine j_get hF hM.1.1 fl_RX8_8 dX8_receive_171 rfl (j_iload hF dX8_receive_174 rfl (j_iload_n hF dX8_receive_176 rfl (j_iadd hF dX8_receive_177 (j_iload hF dX8_receive_178 rfl (j_iadd hF dX8_receive_180 ?_)))))
                      refine j_iald hF hM.1.2.1 dX8_receive_181 (by omega) (fun ra2 rb2 => ?_)
                      refine j_iast hF hM.1.2.1 dX8_receive_182 (by omega) (by omega) (j_nm (fun X3 eX3 => ?_))
                      have hM := hM.u_r eX3
                      refine j_iinc hF dX8_receive_183 rfl (Nat.le_of_ble_eq_true rfl) rfl (j_goto hF 146 dX8_receive_186 (by decide) ?_)
                      refine ih (k + 1) _ (by omega) (by omega) ?_
                      rw [← m_qs_s _ _ _ _ hk.1 hm0.1]
                      exact hM
                exact L146 (8192 + 1) 0 _ (by omega) (by omega) (by rw [m_qs_0]; exact hM)
              ·
                refine j_aload_n hF dX8_receive_76 rfl (j_get hF hM.1.1 fl_RX8_8 dX8_receive_77 rfl (j_iload hF dX8_receive_80 rfl (j_iload hF dX8_receive_82 rfl (j_iadd hF dX8_receive_84 (j_iald hF hM.1.2.1 dX8_receive_85 (by omega) (fun ra3 rb3 => ?_))))))
                have e1 := i1 (38359 + 8192 * w + k) (by omega)
                have q1 := hQ (8192 * w + k) (by omega) (by omega)
                rw [show (38359 : Int) + (8192 * w + k) = 38359 + 8192 * w + k by omega] at q1
                refine j_istore hF dX8_receive_86 (Nat.le_of_ble_eq_true rfl) rfl (j_aload_n hF dX8_receive_88 rfl (j_get hF hM.1.1 fl_RX8_8 dX8_receive_89 rfl (j_sipush hF dX8_receive_92 (by decide) (j_sipush hF dX8_receive_95 (by decide) (j_iload_n hF dX8_receive_98 rfl ?_)))))
                refine j_imul hF dX8_receive_99 (j_iadd hF dX8_receive_100 (j_iload hF dX8_receive_101 rfl (j_iconst hF dX8_receive_103 (j_idiv hF dX8_receive_104 (by omega) (j_iadd hF dX8_receive_105 ?_)))))
                refine j_dup2 hF dX8_receive_106 rfl rfl (j_iald hF hM.1.2.1 dX8_receive_107 (by omega) (fun ra4 rb4 => ?_))
                have v1 := i2 (6359 + 16000 * w + m_rc r w k.toNat (38359 + 8192 * w + k) / 2) (by omega) (by omega)
                refine j_iload hF dX8_receive_108 rfl (j_iconst hF dX8_receive_110 (j_irem hF dX8_receive_111 (by omega) (j_iconst hF dX8_receive_112 (j_icmp_ne hF 120 dX8_receive_113 (by decide) (by omega) (fun c113 => ?_) (fun c113 => ?_)))))
                ·
                  refine j_iconst hF dX8_receive_120 (j_iadd hF dX8_receive_121 (j_iast hF hM.1.2.1 dX8_receive_122 (by omega) (by omega) (j_nm (fun X5 eX5 => ?_))))
                  have hM := hM.u_r eX5
                  refine j_iinc hF dX8_receive_123 rfl (Nat.le_of_ble_eq_true rfl) rfl (j_goto hF 70 dX8_receive_126 (by decide) ?_)
                  refine j_unset 6 (ih (k + 1) _ (by omega) (by omega) ?_)
                  rw [show (k + 1).toNat = k.toNat + 1 by omega]
                  simp only [m_rc]
                  rw [show ((k.toNat : Nat) : Int) = k by omega]
                  first | (rw [if_pos c113]; exact hM) | (rw [if_neg c113]; exact hM)
                ·
                  refine j_iconst hF dX8_receive_116 (j_goto hF 121 dX8_receive_117 (by decide) (j_iadd hF dX8_receive_121 (j_iast hF hM.1.2.1 dX8_receive_122 (by omega) (by omega) (j_nm (fun X6 eX6 => ?_)))))
                  have hM := hM.u_r eX6
                  refine j_iinc hF dX8_receive_123 rfl (Nat.le_of_ble_eq_true rfl) rfl (j_goto hF 70 dX8_receive_126 (by decide) ?_)
                  refine j_unset 6 (ih (k + 1) _ (by omega) (by omega) ?_)
                  rw [show (k + 1).toNat = k.toNat + 1 by omega]
                  simp only [m_rc]
                  rw [show ((k.toNat : Nat) : Int) = k by omega]
                  first | (rw [if_pos c113]; exact hM) | (rw [if_neg c113]; exact hM)
          exact L70 (100) 0 _ (by omega) (by omega) hM
        have q0 := hq w c4.1 (by omega)
        exact J56 _ _ (by unfold m_cnt; rw [if_pos c39]) (by omega) (by omega) hM
    ·
      refine j_aload_n hF dX8_receive_17 rfl (j_bipush hF dX8_receive_18 (by decide) (j_callV hF (c_X8_fails hM.1 (by omega) hE) ms_X8_fails mv_X8_fails lk_RX8_52 dX8_receive_20 hM.1.1 rfl rfl rfl (by simp [Value.category]) ⟨⟨(Nat.le_of_ble_eq_true rfl), (Nat.le_of_ble_eq_true rfl)⟩, by omega, by omega⟩ (fun v7 X7 hp7 hE7 => ?_)))
      obtain ⟨rfl, hM1⟩ := hp7
      have hM := hM.tr hM1
      refine j_iret hF hR dX8_receive_23 (by omega) (by omega) ?_
      refine PU ?_ (MX.of hM)
      unfold sp_receive
      first | exact pif_f (fun h => c4 h.1) | exact pif_f (fun h => c14 h.2)
