/-! ways -/
def Sgo (r : Int → Int) (p c q d : Int) : Prop := (p < 6 ∧ ∃ e, 0 ≤ e ∧ e < r 1 ∧ r (17 + e) = p ∧ q = 6 + e ∧ d = c) ∨ (6 ≤ p ∧ ¬ m_moved r (p - 6) c = -1 ∧ q = r (27 + p - 6) ∧ d = m_moved r (p - 6) c)
def Rc (r : Int → Int) (a c b d : Int) : Prop := ∀ S : Int → Int → Prop, S a c → (∀ p x q y, S p x → Sgo r p x q y → S q y) → S b d
theorem Rc.refl (r : Int → Int) (a c : Int) : Rc r a c a c := fun _ h _ => h
theorem Rc.step {r : Int → Int} {a c p x q y : Int} (h : Rc r a c p x) (hs : Sgo r p x q y) : Rc r a c q y := fun S h0 h1 => h1 p x q y (h S h0 h1) hs
def ILs (r : Int → Int) (a c p v : Int) : Prop := (v = -1 ∧ ∀ d, ¬ Rc r a c p d) ∨ ((0 ≤ v ∧ v ≤ 99) ∧ Rc r a c p v ∧ ∀ d, Rc r a c p d → v ≤ d)
theorem ILs.uniq {r : Int → Int} {a c p v w : Int} (h : ILs r a c p v) (g : ILs r a c p w) : v = w := by
  rcases h with ⟨h1, h2⟩ | ⟨h1, h2, h3⟩ <;> rcases g with ⟨g1, g2⟩ | ⟨g1, g2, g3⟩
  · omega
  · exact absurd g2 (h2 _)
  · exact absurd h2 (g2 _)
  · have := h3 _ g2
    have := g3 _ h2
    omega
noncomputable def lst (r : Int → Int) (a c p : Int) : Int := @dite Int (∃ v, ILs r a c p v) (Classical.propDecidable _) (fun h => Classical.choose h) (fun _ => -1)
theorem lst_eq {r : Int → Int} {a c p v : Int} (h : ILs r a c p v) : lst r a c p = v := by
  have hx : ∃ v, ILs r a c p v := ⟨v, h⟩
  unfold lst
  rw [dif_pos hx]
  exact (Classical.choose_spec hx).uniq h
def Ld (r : Int → Int) (a t b u : Int) : Prop := t / 100 ≤ u / 100 ∧ ∃ d, Rc r a (t % 100) b d ∧ d ≤ u % 100
theorem ILs.ld {r : Int → Int} {a t b u v : Int} (h : ILs r a (t % 100) b v) : Ld r a t b u ↔ (t / 100 ≤ u / 100 ∧ ¬ v = -1 ∧ v ≤ u % 100) := by
  constructor
  · rintro ⟨h1, d, h2, h3⟩
    rcases h with ⟨g1, g2⟩ | ⟨g1, g2, g3⟩
    · exact absurd h2 (g2 d)
    · have := g3 d h2
      exact ⟨h1, by omega, by omega⟩
  · rintro ⟨h1, h2, h3⟩
    rcases h with ⟨g1, g2⟩ | ⟨g1, g2, g3⟩
    · exact absurd g1 h2
    · exact ⟨h1, v, g2, h3⟩
theorem mv_rg {r : Int → Int} {e t : Int} (hG : GI r) (he : 0 ≤ e ∧ e < 10) (ht : 0 ≤ t ∧ t ≤ 99) : m_moved r e t = -1 ∨ (0 ≤ m_moved r e t ∧ m_moved r e t ≤ 99) := by
  unfold m_moved
  (repeat' split) <;> omega
theorem Sgo.rg {r : Int → Int} {p c q d : Int} (hG : GI r) (hp : 0 ≤ p ∧ p < 16) (hc : 0 ≤ c ∧ c ≤ 99) (h : Sgo r p c q d) : (0 ≤ q ∧ q < 16) ∧ 0 ≤ d ∧ d ≤ 99 := by
  have g1 := hG.2.1
  rcases h with ⟨h1, e, e1, e2, e3, e4, e5⟩ | ⟨h1, h2, h3, h4⟩
  · omega
  · have e0 := (hG.ed (p - 6) (by omega) (by omega)).2.1
    rw [show (27 : Int) + (p - 6) = 27 + p - 6 by omega] at e0
    have := mv_rg hG (e := p - 6) (t := c) (by omega) hc
    omega
theorem cf_fu {f : Int → Int} {k v : Int} (h0 : 0 ≤ k) : ∀ n : Nat, cf (fu f k v) n = if k < n then cf f n - f k + v else cf f n
  | 0 => by rw [if_neg (by omega)]; rfl
  | n + 1 => by
    rw [cf, cf, cf_fu h0 n]
    by_cases hk : k = n
    · subst hk
      rw [fu_s, if_neg (by omega), if_pos (by omega)]
      omega
    · rw [fu_n (Ne.symm hk)]
      (repeat' split) <;> omega
theorem cf_le {f : Int → Int} : ∀ n : Nat, (∀ j : Int, 0 ≤ j → j < n → f j ≤ 1) → cf f n ≤ n
  | 0, _ => by simp [cf]
  | n + 1, h => by
    have := cf_le n (fun j a b => h j a (by omega))
    have := h n (by omega) (by omega)
    rw [cf]
    omega
theorem cf_zero {f : Int → Int} : ∀ n : Nat, (∀ j : Int, 0 ≤ j → j < n → f j = 0) → cf f n = 0
  | 0, _ => rfl
  | n + 1, h => by rw [cf, cf_zero n (fun j a b => h j a (by omega)), h n (by omega) (by omega)]; rfl
/-- the search, as far as it has come -/
def BF (r : Int → Int) (a c : Int) (rc wt : Int → Int) (wg : Int) (ls : Int → Int) : Prop :=
  (0 ≤ wg ∧ wg ≤ 1600) ∧ (∀ j, 0 ≤ j → j < 1600 → 0 ≤ rc j ∧ rc j ≤ 1) ∧ cf rc 1600 = wg ∧ (∀ i, 0 ≤ i → i < wg → (0 ≤ wt i ∧ wt i < 1600) ∧ rc (wt i) = 1 ∧ Rc r a c (wt i / 100) (wt i % 100)) ∧ (∀ j, 0 ≤ j → j < 1600 → rc j = 1 → ∃ i, 0 ≤ i ∧ i < wg ∧ wt i = j) ∧
  (∀ p, 0 ≤ p → p < 16 → (ls p = -1 ∧ ∀ i, 0 ≤ i → i < wg → ¬ wt i / 100 = p) ∨ ((0 ≤ ls p ∧ ls p ≤ 99) ∧ (∃ i, 0 ≤ i ∧ i < wg ∧ wt i = 100 * p + ls p) ∧ ∀ i, 0 ≤ i → i < wg → wt i / 100 = p → ls p ≤ wt i % 100))
theorem BF.ls {r : Int → Int} {a c : Int} {rc wt : Int → Int} {wg : Int} {ls : Int → Int} (h : BF r a c rc wt wg ls) {p : Int} (h1 : 0 ≤ p) (h2 : p < 16) : -1 ≤ ls p ∧ ls p ≤ 99 := by
  rcases h.2.2.2.2.2 p h1 h2 with h | h
  · have := h.1; omega
  · have := h.1; omega
theorem BF.room {r : Int → Int} {a c : Int} {rc wt : Int → Int} {wg : Int} {ls : Int → Int} (h : BF r a c rc wt wg ls) {k : Int} (h1 : 0 ≤ k) (h2 : k < 1600) (h3 : rc k = 0) : wg < 1600 := by
  obtain ⟨b1, b2, b3, -⟩ := h
  have e := cf_fu (f := rc) (v := 1) h1 1600
  rw [if_pos (by omega), h3, b3] at e
  have := cf_le (f := fu rc k 1) 1600 (fun j j1 j2 => by
    by_cases hj : j = k
    · rw [hj, fu_s]; omega
    · rw [fu_n hj]; exact (b2 j j1 (by omega)).2)
  omega
theorem BF.push {r : Int → Int} {a c : Int} {rc wt : Int → Int} {wg : Int} {ls : Int → Int} (h : BF r a c rc wt wg ls) {p x : Int} (hp : 0 ≤ p ∧ p < 16) (hx : 0 ≤ x ∧ x ≤ 99) (hr : Rc r a c p x) (h3 : rc (100 * p + x) = 0) {z : Int} (hz : z = if ls p = -1 ∨ x < ls p then x else ls p) : BF r a c (fu rc (100 * p + x) 1) (fu wt wg (100 * p + x)) (wg + 1) (fu ls p z) := by
  have hw := h.room (k := 100 * p + x) (by omega) (by omega) h3
  obtain ⟨b1, b2, b3, b4, b5, b6⟩ := h
  refine ⟨by omega, fun j j1 j2 => ?_, ?_, fun i i1 i2 => ?_, fun j j1 j2 hj => ?_, fun q q1 q2 => ?_⟩
  · by_cases hj : j = 100 * p + x
    · rw [hj, fu_s]; omega
    · rw [fu_n hj]; exact b2 j j1 j2
  · rw [cf_fu (by omega), if_pos (by omega), h3, b3]; omega
  · by_cases hi : i = wg
    · rw [hi, fu_s, fu_s]
      exact ⟨by omega, rfl, by rw [show (100 * p + x) / 100 = p by omega, show (100 * p + x) % 100 = x by omega]; exact hr⟩
    · rw [fu_n hi]
      obtain ⟨q1, q2, q3⟩ := b4 i i1 (by omega)
      refine ⟨q1, ?_, q3⟩
      by_cases hj : wt i = 100 * p + x
      · rw [hj, fu_s]
      · rw [fu_n hj]; exact q2
  · by_cases hjj : j = 100 * p + x
    · exact ⟨wg, by omega, by omega, by rw [fu_s, hjj]⟩
    · rw [fu_n hjj] at hj
      obtain ⟨i, i1, i2, i3⟩ := b5 j j1 j2 hj
      exact ⟨i, i1, by omega, by rw [fu_n (by omega)]; exact i3⟩
  · by_cases hq : q = p
    · subst hq
      rw [fu_s]
      have d1 : (100 * q + x) / 100 = q := by omega
      have d2 : (100 * q + x) % 100 = x := by omega
      rcases b6 q q1 q2 with ⟨l1, l2⟩ | ⟨l1, ⟨i, i1, i2, i3⟩, l3⟩
      · rw [if_pos (Or.inl l1)] at hz
        right
        refine ⟨by omega, ⟨wg, by omega, by omega, by rw [fu_s, hz]⟩, fun j j1 j2 j3 => ?_⟩
        by_cases hj : j = wg
        · rw [hj, fu_s]; omega
        · rw [fu_n hj] at j3
          exact absurd j3 (l2 j j1 (by omega))
      · right
        by_cases hlt : x < ls q
        · rw [if_pos (Or.inr hlt)] at hz
          refine ⟨by omega, ⟨wg, by omega, by omega, by rw [fu_s, hz]⟩, fun j j1 j2 j3 => ?_⟩
          by_cases hj : j = wg
          · rw [hj, fu_s]; omega
          · rw [fu_n hj] at j3 ⊢
            have := l3 j j1 (by omega) j3
            omega
        · rw [if_neg (by omega)] at hz
          refine ⟨by omega, ⟨i, i1, by omega, by rw [fu_n (by omega), hz]; exact i3⟩, fun j j1 j2 j3 => ?_⟩
          by_cases hj : j = wg
          · rw [hj, fu_s]; omega
          · rw [fu_n hj] at j3 ⊢
            have := l3 j j1 (by omega) j3
            omega
    · rw [fu_n hq]
      rcases b6 q q1 q2 with ⟨l1, l2⟩ | ⟨l1, ⟨i, i1, i2, i3⟩, l3⟩
      · left
        refine ⟨l1, fun j j1 j2 j3 => ?_⟩
        by_cases hj : j = wg
        · rw [hj, fu_s] at j3; omega
        · rw [fu_n hj] at j3
          exact l2 j j1 (by omega) j3
      · right
        refine ⟨l1, ⟨i, i1, by omega, by rw [fu_n (by omega)]; exact i3⟩, fun j j1 j2 j3 => ?_⟩
        by_cases hj : j = wg
        · rw [hj, fu_s] at j3; omega
        · rw [fu_n hj] at j3 ⊢
          exact l3 j j1 (by omega) j3
/-- what a search has added -/
def BM (rc wt : Int → Int) (wg : Int) (rc' wt' : Int → Int) (wg' : Int) : Prop := wg ≤ wg' ∧ (∀ j, rc j = 1 → rc' j = 1) ∧ ∀ i, i < wg → wt' i = wt i
theorem BM.refl (rc wt : Int → Int) (wg : Int) : BM rc wt wg rc wt wg := ⟨Int.le_refl _, fun _ h => h, fun _ _ => rfl⟩
theorem BM.trans {rc wt rc1 wt1 rc2 wt2 : Int → Int} {wg wg1 wg2 : Int} (h : BM rc wt wg rc1 wt1 wg1) (g : BM rc1 wt1 wg1 rc2 wt2 wg2) : BM rc wt wg rc2 wt2 wg2 :=
  ⟨Int.le_trans h.1 g.1, fun j hj => g.2.1 j (h.2.1 j hj), fun i hi => (g.2.2 i (by have := h.1; omega)).trans (h.2.2 i hi)⟩
def BC (r : Int → Int) (rc wt : Int → Int) (k : Int) : Prop := ∀ i, 0 ≤ i → i < k → ∀ q d, Sgo r (wt i / 100) (wt i % 100) q d → rc (100 * q + d) = 1
theorem BF.fin {r : Int → Int} {a c : Int} {rc wt : Int → Int} {wg : Int} {ls : Int → Int} (hG : GI r) (h : BF r a c rc wt wg ls) (hc : BC r rc wt wg) (ha : 0 ≤ a ∧ a < 16) (hx : 0 ≤ c ∧ c ≤ 99) (h0 : rc (100 * a + c) = 1) {p : Int} (h1 : 0 ≤ p) (h2 : p < 16) : ILs r a c p (ls p) := by
  obtain ⟨b1, b2, b3, b4, b5, b6⟩ := h
  have key : ∀ q d, Rc r a c q d → ((0 ≤ q ∧ q < 16) ∧ 0 ≤ d ∧ d ≤ 99) ∧ rc (100 * q + d) = 1 := fun q d hq => hq (fun q d => ((0 ≤ q ∧ q < 16) ∧ 0 ≤ d ∧ d ≤ 99) ∧ rc (100 * q + d) = 1) ⟨⟨ha, hx⟩, h0⟩ (fun q x q' y hs st => by
    obtain ⟨⟨s1, s2⟩, s3⟩ := hs
    refine ⟨st.rg hG s1 s2, ?_⟩
    obtain ⟨i, i1, i2, i3⟩ := b5 (100 * q + x) (by omega) (by omega) s3
    exact hc i i1 i2 q' y (by rw [i3, show (100 * q + x) / 100 = q by omega, show (100 * q + x) % 100 = x by omega]; exact st))
  rcases b6 p h1 h2 with ⟨l1, l2⟩ | ⟨l1, ⟨i, i1, i2, i3⟩, l3⟩
  · left
    refine ⟨l1, fun d hd => ?_⟩
    obtain ⟨⟨s1, s2⟩, s3⟩ := key p d hd
    obtain ⟨j, j1, j2, j3⟩ := b5 (100 * p + d) (by omega) (by omega) s3
    exact l2 j j1 j2 (by omega)
  · right
    refine ⟨l1, ?_, fun d hd => ?_⟩
    · have := (b4 i i1 i2).2.2
      rwa [i3, show (100 * p + ls p) / 100 = p by omega, show (100 * p + ls p) % 100 = ls p by omega] at this
    · obtain ⟨⟨s1, s2⟩, s3⟩ := key p d hd
      obtain ⟨j, j1, j2, j3⟩ := b5 (100 * p + d) (by omega) (by omega) s3
      have := l3 j j1 j2 (by omega)
      omega
noncomputable def sp_couldResultIn (σ : St) (a t b u : Int) : Int × St := pif ((((m_place σ.1 a) ∧ m_place σ.1 b) ∧ m_time σ.1 a t) ∧ m_time σ.1 b u) (bz (Ld σ.1 a t b u), σ) (sp_fail σ (-2))
noncomputable def sp_earliest (σ : St) (a t b : Int) : Int × St := pif (((m_place σ.1 a) ∧ m_place σ.1 b) ∧ m_time σ.1 a t) (if lst σ.1 a (t % 100) b = -1 then -1 else t - t % 100 + lst σ.1 a (t % 100) b, σ) (sp_fail σ (-2))
set_option maxRecDepth 100000 in
set_option maxHeartbeats 4000000 in
theorem c_X8_reaches {X : Hp} {ad : Nat → Nat} {r pf : Int → Int} {sv : Int} {er sn lw rc wt : Int → Int} {wg : Int} {ls ac fi : Int → Int} {as : Int} {hh : Int64} (hM : MM X ad r pf sv er sn lw rc wt wg ls ac fi as hh) {a c p x : Int} (hp : 0 ≤ p ∧ p < 16) (hx : 0 ≤ x ∧ x ≤ 99) (hB : BF r a c rc wt wg ls) (hr : Rc r a c p x) : Ct yX8_reaches cX8_reaches 3 none 0 0 [.ref (ad 0), vi p, vi x] X 0 0 (fun rv X' => rv = none ∧ ∃ rc' wt' wg' ls', MG X X' ad r pf sv er sn lw rc' wt' wg' ls' ac fi as hh ∧ BF r a c rc' wt' wg' ls' ∧ BM rc wt wg rc' wt' wg' ∧ rc' (100 * p + x) = 1) := by
  refine Ct.of (by decide +kernel) [some (.ref (ad 0)), some (vi p), some (vi x)] rfl (Nat.le_of_ble_eq_true rfl) (fun φ hF hR => ?_)
  have hM := hM.g
  have q0 := hB.2.1 (100 * p + x) (by omega) (by omega)
  have l0 := hB.ls hp.1 hp.2
  refine j_aload_n hF dX8_reaches_0 rfl (j_get hF hM.1.1 fl_RX8_27 dX8_reaches_1 rfl (j_bipush hF dX8_reaches_4 (by decide) (j_iload_n hF dX8_reaches_6 rfl (j_imul hF dX8_reaches_7 (j_iload_n hF dX8_reaches_8 rfl ?_)))))
  refine j_iadd hF dX8_reaches_9 (j_zald hF hM.1.2.2.2.2.2.2.1 dX8_reaches_10 (by omega) (fun ra1 rb1 => ?_))
  refine j_if_ne hF 87 dX8_reaches_11 (by decide) (by omega) (fun c11 => ?_) (fun c11 => ?_)
  ·
    refine j_vret hF hR dX8_reaches_87 (by omega) (by omega) ?_
    exact ⟨rfl, _, _, _, _, hM, hB, BM.refl _ _ _, by omega⟩
  ·
    have r0 : rc (100 * p + x) = 0 := c11
    have wr := hB.room (k := 100 * p + x) (by omega) (by omega) r0
    have w0 := hB.1
    refine j_aload_n hF dX8_reaches_14 rfl (j_get hF hM.1.1 fl_RX8_27 dX8_reaches_15 rfl (j_bipush hF dX8_reaches_18 (by decide) (j_iload_n hF dX8_reaches_20 rfl (j_imul hF dX8_reaches_21 (j_iload_n hF dX8_reaches_22 rfl ?_)))))
    refine j_iadd hF dX8_reaches_23 (j_iconst hF dX8_reaches_24 (j_zast hF hM.1.2.2.2.2.2.2.1 dX8_reaches_25 (by omega) (by exact Or.inr rfl) (j_nm (fun X2 eX2 => ?_))))
    have hM := hM.u_rc eX2
    refine j_aload_n hF dX8_reaches_26 rfl (j_get hF hM.1.1 fl_RX8_31 dX8_reaches_27 rfl (j_aload_n hF dX8_reaches_30 rfl (j_get hF hM.1.1 fl_RX8_94 dX8_reaches_31 rfl (j_bipush hF dX8_reaches_34 (by decide) (j_iload_n hF dX8_reaches_36 rfl ?_)))))
    refine j_imul hF dX8_reaches_37 (j_iload_n hF dX8_reaches_38 rfl (j_iadd hF dX8_reaches_39 (j_iast hF hM.1.2.2.2.2.2.2.2.1 dX8_reaches_40 (by omega) (by omega) (j_nm (fun X3 eX3 => ?_)))))
    have hM := hM.u_wt eX3
    refine j_aload_n hF dX8_reaches_41 rfl (j_dup hF dX8_reaches_42 rfl (j_get hF hM.1.1 fl_RX8_94 dX8_reaches_43 rfl (j_iconst hF dX8_reaches_46 (j_iadd hF dX8_reaches_47 (j_put hF hM.1.1 fl_RX8_94 dX8_reaches_48 rfl rfl (Nat.le_of_ble_eq_true rfl) (j_nm (fun X4 eX4 => ?_)))))))
    have hM := hM.u_wg eX4
    refine j_aload_n hF dX8_reaches_51 rfl (j_get hF hM.1.1 fl_RX8_34 dX8_reaches_52 rfl (j_iload_n hF dX8_reaches_55 rfl (j_aload_n hF dX8_reaches_56 rfl (j_get hF hM.1.1 fl_RX8_34 dX8_reaches_57 rfl (j_iload_n hF dX8_reaches_60 rfl ?_)))))
    refine j_iald hF hM.1.2.2.2.2.2.2.2.2.1 dX8_reaches_61 (by omega) (fun ra5 rb5 => ?_)
    refine j_iconst hF dX8_reaches_62 (j_icmp_eq hF 76 dX8_reaches_63 (by decide) (by omega) (fun c63 => ?_) (fun c63 => ?_))
    ·
      refine j_iload_n hF dX8_reaches_76 rfl (j_goto hF 86 dX8_reaches_77 (by decide) (j_iast hF hM.1.2.2.2.2.2.2.2.2.1 dX8_reaches_86 (by omega) (by omega) (j_nm (fun X6 eX6 => ?_))))
      have hM := hM.u_ls eX6
      refine j_vret hF hR dX8_reaches_87 (by omega) (by omega) ?_
      refine ⟨rfl, _, _, _, _, hM, hB.push hp hx hr r0 ?_, ⟨by omega, fun j hj => ?_, fun i hi => fu_n (by omega)⟩, fu_s⟩
      · (repeat' split) <;> omega
      · rw [fu_n (fun q => by rw [q, r0] at hj; omega)]; exact hj
    ·
      refine j_iload_n hF dX8_reaches_66 rfl (j_aload_n hF dX8_reaches_67 rfl (j_get hF hM.1.1 fl_RX8_34 dX8_reaches_68 rfl (j_iload_n hF dX8_reaches_71 rfl (j_iald hF hM.1.2.2.2.2.2.2.2.2.1 dX8_reaches_72 (by omega) (fun ra7 rb7 => ?_)))))
      refine j_icmp_ge hF 80 dX8_reaches_73 (by decide) (by omega) (fun c73 => ?_) (fun c73 => ?_)
      ·
        refine j_aload_n hF dX8_reaches_80 rfl (j_get hF hM.1.1 fl_RX8_34 dX8_reaches_81 rfl (j_iload_n hF dX8_reaches_84 rfl (j_iald hF hM.1.2.2.2.2.2.2.2.2.1 dX8_reaches_85 (by omega) (fun ra8 rb8 => ?_))))
        refine j_iast hF hM.1.2.2.2.2.2.2.2.2.1 dX8_reaches_86 (by omega) (by omega) (j_nm (fun X9 eX9 => ?_))
        have hM := hM.u_ls eX9
        refine j_vret hF hR dX8_reaches_87 (by omega) (by omega) ?_
        refine ⟨rfl, _, _, _, _, hM, hB.push hp hx hr r0 ?_, ⟨by omega, fun j hj => ?_, fun i hi => fu_n (by omega)⟩, fu_s⟩
        · (repeat' split) <;> omega
        · rw [fu_n (fun q => by rw [q, r0] at hj; omega)]; exact hj
      ·
        refine j_iload_n hF dX8_reaches_76 rfl (j_goto hF 86 dX8_reaches_77 (by decide) (j_iast hF hM.1.2.2.2.2.2.2.2.2.1 dX8_reaches_86 (by omega) (by omega) (j_nm (fun X10 eX10 => ?_))))
        have hM := hM.u_ls eX10
        refine j_vret hF hR dX8_reaches_87 (by omega) (by omega) ?_
        refine ⟨rfl, _, _, _, _, hM, hB.push hp hx hr r0 ?_, ⟨by omega, fun j hj => ?_, fun i hi => fu_n (by omega)⟩, fu_s⟩
        · (repeat' split) <;> omega
        · rw [fu_n (fun q => by rw [q, r0] at hj; omega)]; exact hj

set_option maxRecDepth 100000 in
set_option maxHeartbeats 4000000 in
theorem c_X8_goes {X : Hp} {ad : Nat → Nat} {r pf : Int → Int} {sv : Int} {er sn lw rc wt : Int → Int} {wg : Int} {ls ac fi : Int → Int} {as : Int} {hh : Int64} (hM : MM X ad r pf sv er sn lw rc wt wg ls ac fi as hh) {a c : Int} (hG : GI r) (ha : 0 ≤ a ∧ a < 16) (hc : 0 ≤ c ∧ c ≤ 99) : Ct yX8_goes cX8_goes 7 none 2 47 [.ref (ad 0), vi a, vi c] X 0 0 (fun rv X' => rv = none ∧ ∃ rc' wt' wg' ls', MG X X' ad r pf sv er sn lw rc' wt' wg' ls' ac fi as hh ∧ ∀ p, 0 ≤ p → p < 16 → ILs r a c p (ls' p)) := by
  refine Ct.of (by decide +kernel) [some (.ref (ad 0)), some (vi a), some (vi c), none, none, none, none] rfl (Nat.le_of_ble_eq_true rfl) (fun φ hF hR => ?_)
  have hM := hM.g
  refine j_iconst hF dX8_goes_0 (j_istore_n hF dX8_goes_1 (Nat.le_of_ble_eq_true rfl) rfl ?_)
  have L2 : ∀ (n : Nat) (k : Int) (Y : Hp) (rc' : Int → Int), (1600 - k).toNat < n → 0 ≤ k ∧ k ≤ 1600 → MG X Y ad r pf sv er sn lw rc' wt wg ls ac fi as hh → (∀ j, 0 ≤ j → j < k → rc' j = 0) → Jd φ Y 0 0 2 [some (.ref (ad 0)), some (vi a), some (vi c), some (vi k), none, none, none] [] := by
    intro n
    induction n with
    | zero => intro k Y rc' hfu; exact absurd hfu (by omega)
    | succ n ih =>
      intro k Y rc' hfu hk hM hz
      refine j_iload_n hF dX8_goes_2 rfl (j_sipush hF dX8_goes_3 (by decide) (j_icmp_ge hF 22 dX8_goes_6 (by decide) (by omega) (fun c6 => ?_) (fun c6 => ?_)))
      ·
        refine j_iconst hF dX8_goes_22 (j_istore_n hF dX8_goes_23 (Nat.le_of_ble_eq_true rfl) rfl ?_)
        obtain ⟨rc0, erc⟩ : ∃ z, z = rc' := ⟨_, rfl⟩
        rw [← erc] at hM
        have hz1 : ∀ j, 0 ≤ j → j < 1600 → rc0 j = 0 := fun j j1 j2 => by rw [erc]; exact hz j j1 (by omega)
        have L24 : ∀ (n : Nat) (k : Int) (Y : Hp) (ls' : Int → Int), (16 - k).toNat < n → 0 ≤ k ∧ k ≤ 16 → MG X Y ad r pf sv er sn lw rc0 wt wg ls' ac fi as hh → (∀ j, 0 ≤ j → j < k → ls' j = -1) → Jd φ Y 0 0 24 [some (.ref (ad 0)), some (vi a), some (vi c), some (vi k), none, none, none] [] := by
          intro n
          induction n with
          | zero => intro k Y ls' hfu; exact absurd hfu (by omega)
          | succ n ih =>
            intro k Y ls' hfu hk hM hz
            refine j_iload_n hF dX8_goes_24 rfl (j_bipush hF dX8_goes_25 (by decide) (j_icmp_ge hF 43 dX8_goes_27 (by decide) (by omega) (fun c27 => ?_) (fun c27 => ?_)))
            ·
              refine j_aload_n hF dX8_goes_43 rfl (j_iconst hF dX8_goes_44 (j_put hF hM.1.1 fl_RX8_94 dX8_goes_45 rfl rfl (Nat.le_of_ble_eq_true rfl) (j_nm (fun X1 eX1 => ?_))))
              have hM := hM.u_wg eX1
              refine j_aload_n hF dX8_goes_48 rfl (j_iload_n hF dX8_goes_49 rfl (j_iload_n hF dX8_goes_50 rfl (j_callV hF (c_X8_reaches (a := a) (c := c) hM.1 ha hc ⟨by omega, fun j j1 j2 => by rw [hz1 j j1 j2]; omega, cf_zero 1600 (fun j j1 j2 => hz1 j j1 (by omega)), fun i i1 i2 => by omega, fun j j1 j2 hj => by rw [hz1 j j1 j2] at hj; omega, fun p p1 p2 => Or.inl ⟨hz p p1 (by omega), fun i i1 i2 => by omega⟩⟩ (Rc.refl _ _ _)) ms_X8_reaches mv_X8_reaches lk_RX8_97 dX8_goes_51 hM.1.1 rfl rfl rfl (by simp [Value.category]) ⟨⟨(Nat.le_of_ble_eq_true rfl), (Nat.le_of_ble_eq_true rfl)⟩, by omega, by omega⟩ (fun v2 X2 hp2 hE2 => ?_))))
              obtain ⟨rfl, rc3, wt3, wg3, ls3, hM1, hB, hm, hcn⟩ := hp2
              have hM := hM.tr hM1
              refine j_iconst hF dX8_goes_54 (j_istore_n hF dX8_goes_55 (Nat.le_of_ble_eq_true rfl) rfl ?_)
              have L56 : ∀ (n : Nat) (k : Int) (Y : Hp) (rc' wt' : Int → Int) (wg' : Int) (ls' : Int → Int), (1600 - k).toNat < n → 0 ≤ k ∧ k ≤ wg' → MG X Y ad r pf sv er sn lw rc' wt' wg' ls' ac fi as hh → BF r a c rc' wt' wg' ls' → BC r rc' wt' k → rc' (100 * a + c) = 1 → Jd φ Y 0 0 56 [some (.ref (ad 0)), some (vi a), some (vi c), some (vi k), none, none, none] [] := by
                intro n
                induction n with
                | zero => intro k Y rc' wt' wg' ls' hfu; exact absurd hfu (by omega)
                | succ n ih =>
                  intro k Y rc' wt' wg' ls' hfu hk hM hB hC h0
                  have g1 := hG.2.1
                  refine j_iload_n hF dX8_goes_56 rfl (j_aload_n hF dX8_goes_57 rfl (j_get hF hM.1.1 fl_RX8_94 dX8_goes_58 rfl (j_icmp_ge hF 186 dX8_goes_61 (by decide) (by have := hB.1; omega) (fun c61 => ?_) (fun c61 => ?_))))
                  ·
                    refine j_vret hF hR dX8_goes_186 (by omega) (by omega) ?_
                    have ek : k = wg' := by omega
                    exact ⟨rfl, _, _, _, _, hM, fun p p1 p2 => hB.fin hG (ek ▸ hC) ha hc h0 p1 p2⟩
                  ·
                    have hBk := hB.2.2.2.1 k hk.1 (by omega)
                    have hw0 := hB.1
                    have hk0 := hBk.1
                    have J180 : ∀ (Y2 : Hp) (rc1 wt1 : Int → Int) (wg1 : Int) (ls1 : Int → Int) (z6 : Option Value), MG X Y2 ad r pf sv er sn lw rc1 wt1 wg1 ls1 ac fi as hh → BF r a c rc1 wt1 wg1 ls1 → BM rc' wt' wg' rc1 wt1 wg1 → (∀ q d, Sgo r (wt' k / 100) (wt' k % 100) q d → rc1 (100 * q + d) = 1) → Jd φ Y2 0 0 180 [some (.ref (ad 0)), some (vi a), some (vi c), some (vi k), some (vi (wt' k / 100)), some (vi (wt' k % 100)), z6] [] := by
                      intro Y2 rc1 wt1 wg1 ls1 z6 hM hB hm hS
                      refine j_iinc hF dX8_goes_180 rfl (Nat.le_of_ble_eq_true rfl) rfl (j_goto hF 56 dX8_goes_183 (by decide) ?_)
                      refine j_unset 4 (j_unset 5 (j_unset 6 ?_))
                      refine ih (k + 1) _ _ _ _ _ (by have := hB.1; omega) (by have := hm.1; omega) hM hB (fun i i1 i2 q d st => ?_) (hm.2.1 _ h0)
                      rcases (show i < k ∨ i = k by omega) with h3 | rfl
                      · rw [hm.2.2 i (by omega)] at st
                        exact hm.2.1 _ (hC i i1 h3 q d st)
                      · rw [hm.2.2 i (by omega)] at st
                        exact hS q d st
                    refine j_aload_n hF dX8_goes_64 rfl (j_get hF hM.1.1 fl_RX8_31 dX8_goes_65 rfl (j_iload_n hF dX8_goes_68 rfl (j_iald hF hM.1.2.2.2.2.2.2.2.1 dX8_goes_69 (by omega) (fun ra1 rb1 => ?_))))
                    refine j_bipush hF dX8_goes_70 (by decide) (j_idiv hF dX8_goes_72 (by omega) (j_istore hF dX8_goes_73 (Nat.le_of_ble_eq_true rfl) rfl (j_aload_n hF dX8_goes_75 rfl (j_get hF hM.1.1 fl_RX8_31 dX8_goes_76 rfl (j_iload_n hF dX8_goes_79 rfl ?_)))))
                    refine j_iald hF hM.1.2.2.2.2.2.2.2.1 dX8_goes_80 (by omega) (fun ra2 rb2 => ?_)
                    refine j_bipush hF dX8_goes_81 (by decide) (j_irem hF dX8_goes_83 (by omega) (j_istore hF dX8_goes_84 (Nat.le_of_ble_eq_true rfl) rfl (j_iload hF dX8_goes_86 rfl (j_bipush hF dX8_goes_88 (by decide) (j_icmp_lt hF 134 dX8_goes_90 (by decide) (by omega) (fun c90 => ?_) (fun c90 => ?_))))))
                    ·
                      refine j_iconst hF dX8_goes_134 (j_istore hF dX8_goes_135 (Nat.le_of_ble_eq_true rfl) rfl ?_)
                      have L137 : ∀ (n2 : Nat) (j : Int) (Y2 : Hp) (rc1 wt1 : Int → Int) (wg1 : Int) (ls1 : Int → Int), (r 1 - j).toNat < n2 → 0 ≤ j ∧ j ≤ r 1 → MG X Y2 ad r pf sv er sn lw rc1 wt1 wg1 ls1 ac fi as hh → BF r a c rc1 wt1 wg1 ls1 → BM rc' wt' wg' rc1 wt1 wg1 → (∀ e, 0 ≤ e → e < j → r (17 + e) = wt' k / 100 → rc1 (100 * (6 + e) + wt' k % 100) = 1) → Jd φ Y2 0 0 137 [some (.ref (ad 0)), some (vi a), some (vi c), some (vi k), some (vi (wt' k / 100)), some (vi (wt' k % 100)), some (vi j)] [] := by
                        intro n2
                        induction n2 with
                        | zero => intro j Y2 rc1 wt1 wg1 ls1 hfu; exact absurd hfu (by omega)
                        | succ n2 ih2 =>
                          intro j Y2 rc1 wt1 wg1 ls1 hfu hj hM hB hm hJ
                          refine j_iload hF dX8_goes_137 rfl (j_aload_n hF dX8_goes_139 rfl (j_get hF hM.1.1 fl_RX8_8 dX8_goes_140 rfl (j_iconst hF dX8_goes_143 (j_iald hF hM.1.2.1 dX8_goes_144 (by omega) (fun ra1 rb1 => ?_)))))
                          refine j_icmp_ge hF 180 dX8_goes_145 (by decide) (by omega) (fun c145 => ?_) (fun c145 => ?_)
                          ·
                            refine J180 _ _ _ _ _ _ hM hB hm (fun q d st => ?_)
                            rcases st with ⟨s1, e, e1, e2, e3, e4, e5⟩ | ⟨s1, -⟩
                            · rw [e4, e5]; exact hJ e e1 (by omega) e3
                            · omega
                          ·
                            refine j_aload_n hF dX8_goes_148 rfl (j_get hF hM.1.1 fl_RX8_8 dX8_goes_149 rfl (j_bipush hF dX8_goes_152 (by decide) (j_iload hF dX8_goes_154 rfl (j_iadd hF dX8_goes_156 (j_iald hF hM.1.2.1 dX8_goes_157 (by omega) (fun ra2 rb2 => ?_))))))
                            refine j_iload hF dX8_goes_158 rfl (j_icmp_ne hF 174 dX8_goes_160 (by decide) (by omega) (fun c160 => ?_) (fun c160 => ?_))
                            ·
                              refine j_iinc hF dX8_goes_174 rfl (Nat.le_of_ble_eq_true rfl) rfl (j_goto hF 137 dX8_goes_177 (by decide) ?_)
                              refine ih2 (j + 1) _ _ _ _ _ (by omega) (by omega) hM hB hm (fun e e1 e2 e3 => ?_)
                              rcases (show e < j ∨ e = j by omega) with h3 | rfl
                              · first | exact hmn.2.1 _ (hJ e e1 h3 e3) | exact hJ e e1 h3 e3
                              · first | exact hcn | exact absurd e3 c160
                            ·
                              refine j_aload_n hF dX8_goes_163 rfl (j_bipush hF dX8_goes_164 (by decide) (j_iload hF dX8_goes_166 rfl (j_iadd hF dX8_goes_168 (j_iload hF dX8_goes_169 rfl (j_callV hF (c_X8_reaches hM.1 (by omega) (by omega) hB (Rc.step (hBk.2.2) (Or.inl ⟨c90, j, hj.1, by omega, c160, rfl, rfl⟩))) ms_X8_reaches mv_X8_reaches lk_RX8_97 dX8_goes_171 hM.1.1 rfl rfl rfl (by simp [Value.category]) ⟨⟨(Nat.le_of_ble_eq_true rfl), (Nat.le_of_ble_eq_true rfl)⟩, by omega, by omega⟩ (fun v3 X3 hp3 hE3 => ?_))))))
                              obtain ⟨rfl, rc3, wt3, wg3, ls3, hM1, hB, hmn, hcn⟩ := hp3
                              have hM := hM.tr hM1
                              have hm := hm.trans hmn
                              refine j_iinc hF dX8_goes_174 rfl (Nat.le_of_ble_eq_true rfl) rfl (j_goto hF 137 dX8_goes_177 (by decide) ?_)
                              refine ih2 (j + 1) _ _ _ _ _ (by omega) (by omega) hM hB hm (fun e e1 e2 e3 => ?_)
                              rcases (show e < j ∨ e = j by omega) with h3 | rfl
                              · first | exact hmn.2.1 _ (hJ e e1 h3 e3) | exact hJ e e1 h3 e3
                              · first | exact hcn | exact absurd e3 c160
                      exact L137 ((r 1).toNat + 1) 0 _ _ _ _ _ (by omega) (by omega) hM hB (BM.refl _ _ _) (fun e e1 e2 => by omega)
                    ·
                      refine j_aload_n hF dX8_goes_93 rfl (j_iload hF dX8_goes_94 rfl (j_bipush hF dX8_goes_96 (by decide) (j_isub hF dX8_goes_98 (j_iload hF dX8_goes_99 rfl (j_callV hF (c_X8_moved hM.1 hG (by omega) (by omega)) ms_X8_moved mv_X8_moved lk_RX8_90 dX8_goes_101 hM.1.1 rfl rfl rfl (by simp [Value.category]) ⟨⟨(Nat.le_of_ble_eq_true rfl), (Nat.le_of_ble_eq_true rfl)⟩, by omega, by omega⟩ (fun v3 X3 hp3 hE3 => ?_))))))
                      obtain ⟨rfl, he3⟩ := hp3; obtain rfl := he3.symm
                      have mr := mv_rg hG (e := wt' k / 100 - 6) (t := wt' k % 100) (by omega) (by omega)
                      refine j_istore hF dX8_goes_104 (Nat.le_of_ble_eq_true rfl) rfl (j_iload hF dX8_goes_106 rfl (j_iconst hF dX8_goes_108 (j_icmp_eq hF 131 dX8_goes_109 (by decide) (by omega) (fun c109 => ?_) (fun c109 => ?_))))
                      ·
                        refine j_goto hF 180 dX8_goes_131 (by decide) ?_
                        exact J180 _ _ _ _ _ _ hM hB (BM.refl _ _ _) (fun q d st => st.elim (fun s => absurd s.1 (Int.not_lt.mpr c90)) (fun s => absurd c109 s.2.1))
                      ·
                        have et := (hG.ed (wt' k / 100 - 6) (by omega) (by omega)).2.1
                        rw [show (27 : Int) + (wt' k / 100 - 6) = 27 + wt' k / 100 - 6 by omega] at et
                        refine j_aload_n hF dX8_goes_112 rfl (j_aload_n hF dX8_goes_113 rfl (j_get hF hM.1.1 fl_RX8_8 dX8_goes_114 rfl (j_bipush hF dX8_goes_117 (by decide) (j_iload hF dX8_goes_119 rfl (j_iadd hF dX8_goes_121 ?_)))))
                        refine j_bipush hF dX8_goes_122 (by decide) (j_isub hF dX8_goes_124 (j_iald hF hM.1.2.1 dX8_goes_125 (by omega) (fun ra4 rb4 => ?_)))
                        refine j_iload hF dX8_goes_126 rfl (j_callV hF (c_X8_reaches hM.1 (by omega) (by omega) hB (Rc.step (hBk.2.2) (Or.inr ⟨c90, c109, rfl, rfl⟩))) ms_X8_reaches mv_X8_reaches lk_RX8_97 dX8_goes_128 hM.1.1 rfl rfl rfl (by simp [Value.category]) ⟨⟨(Nat.le_of_ble_eq_true rfl), (Nat.le_of_ble_eq_true rfl)⟩, by omega, by omega⟩ (fun v5 X5 hp5 hE5 => ?_))
                        obtain ⟨rfl, rc3, wt3, wg3, ls3, hM1, hB, hm, hcn⟩ := hp5
                        have hM := hM.tr hM1
                        refine j_goto hF 180 dX8_goes_131 (by decide) ?_
                        exact J180 _ _ _ _ _ _ hM hB hm (fun q d st => st.elim (fun s => absurd s.1 (Int.not_lt.mpr c90)) (fun s => by rw [s.2.2.1, s.2.2.2]; exact hcn))
              exact L56 1601 0 _ _ _ _ _ (by decide) ⟨by decide, hB.1.1⟩ hM hB (fun i i1 i2 => by omega) hcn
            ·
              refine j_aload_n hF dX8_goes_30 rfl (j_get hF hM.1.1 fl_RX8_34 dX8_goes_31 rfl (j_iload_n hF dX8_goes_34 rfl (j_iconst hF dX8_goes_35 (j_iast hF hM.1.2.2.2.2.2.2.2.2.1 dX8_goes_36 (by omega) (by omega) (j_nm (fun X3 eX3 => ?_))))))
              have hM := hM.u_ls eX3
              refine j_iinc hF dX8_goes_37 rfl (Nat.le_of_ble_eq_true rfl) rfl (j_goto hF 24 dX8_goes_40 (by decide) ?_)
              refine ih (k + 1) _ _ (by omega) (by omega) hM (fun j j1 j2 => ?_)
              by_cases hj : j = k
              · rw [hj, fu_s]
              · rw [fu_n hj]; exact hz j j1 (by omega)
        exact L24 17 0 _ ls (by decide) (by decide) hM (fun j j1 j2 => by omega)
      ·
        refine j_aload_n hF dX8_goes_9 rfl (j_get hF hM.1.1 fl_RX8_27 dX8_goes_10 rfl (j_iload_n hF dX8_goes_13 rfl (j_iconst hF dX8_goes_14 (j_zast hF hM.1.2.2.2.2.2.2.1 dX8_goes_15 (by omega) (by exact Or.inl rfl) (j_nm (fun X1 eX1 => ?_))))))
        have hM := hM.u_rc eX1
        refine j_iinc hF dX8_goes_16 rfl (Nat.le_of_ble_eq_true rfl) rfl (j_goto hF 2 dX8_goes_19 (by decide) ?_)
        refine ih (k + 1) _ _ (by omega) (by omega) hM (fun j j1 j2 => ?_)
        by_cases hj : j = k
        · rw [hj, fu_s]
        · rw [fu_n hj]; exact hz j j1 (by omega)
  exact L2 1601 0 _ rc (by decide) (by decide) hM (fun j j1 j2 => by omega)
