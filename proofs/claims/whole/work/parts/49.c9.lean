/-! Ways -/
def GV (r : Int → Int) : Prop := GI r ∧ (∀ e, 0 ≤ e → e < r 1 → (r (17 + e) < r 0 ∧ r (27 + e) < r 0) ∧ (-1 ≤ r (5 + r (27 + e)) - r (5 + r (17 + e)) ∧ r (5 + r (27 + e)) - r (5 + r (17 + e)) ≤ 1) ∧ (r (37 + e) = 1 → r (5 + r (27 + e)) = r (5 + r (17 + e)) ∧ ¬ r (5 + r (17 + e)) = 0)) ∧ (∀ j, r 0 ≤ j → j < 6 → r (5 + j) = 0)
/-- the class's graph is the row's -/
def GE (r : Int → Int) (nc ec : Int) (fd fs fe fk : Int → Int) : Prop := (nc = r 0 ∧ ec = r 1) ∧ (∀ j, 0 ≤ j → j < 6 → fd j = r (5 + j)) ∧ (∀ j, 0 ≤ j → j < r 1 → fs j = r (17 + j) ∧ fe j = r (27 + j) ∧ fk j = m_kind r j)
def vt (r : Int → Int) (p c : Int) : Prop := m_place r p ∧ (0 ≤ c ∧ c ≤ 99) ∧ (m_depth r p = 2 ∨ (m_depth r p = 1 ∧ c % 10 = 0) ∨ (m_depth r p = 0 ∧ c % 100 = 0))
theorem m_place.rg {r : Int → Int} {p : Int} (hG : GI r) (h : m_place r p) : 0 ≤ p ∧ p < 16 := by
  have g0 := hG.1; have g1 := hG.2.1
  rcases h with h | h <;> omega
theorem moved_eq {r : Int → Int} {e c : Int} {fd fs fk : Int → Int} (hG : GV r) (he : 0 ≤ e ∧ e < r 1) (hc : 0 ≤ c ∧ c ≤ 999) (h1 : fk e = m_kind r e) (h2 : fd (fs e) = r (5 + r (17 + e))) (hv : r (5 + r (17 + e)) = 2 ∨ (r (5 + r (17 + e)) = 1 ∧ c % 10 = 0) ∨ (r (5 + r (17 + e)) = 0 ∧ c % 100 = 0)) : c_after fd fs fk e c = m_moved r e c := by
  obtain ⟨g1, g2, g3⟩ := hG.2.1 e he.1 he.2
  have hr := g1.1
  have hs := hG.1.ed e he.1 (by have := hG.1.2.1; omega)
  have d1 := hG.1.dep (r (17 + e)) hs.1.1 hs.1.2
  have d2 := hG.1.dep (r (27 + e)) hs.2.1.1 hs.2.1.2
  unfold c_after m_moved
  rw [h1, h2]
  unfold m_kind
  generalize r (5 + r (27 + e)) = A at *
  generalize r (5 + r (17 + e)) = B at *
  generalize r (37 + e) = K at *
  (repeat' split) <;> omega
theorem vt.step {r : Int → Int} {p c q d : Int} (hG : GV r) (h : vt r p c) (s : Sgo r p c q d) : vt r q d := by
  obtain ⟨hp, hc, hv⟩ := h
  rcases s with ⟨s1, e, e1, e2, e3, e4, e5⟩ | ⟨s1, s2, s3, s4⟩
  · subst e4 e5
    refine ⟨Or.inr (by omega), hc, ?_⟩
    unfold m_depth at hv ⊢
    rw [if_pos s1] at hv
    rw [if_neg (by omega), show 17 + (6 + e) - 6 = 17 + e by omega, e3]
    exact hv
  · obtain ⟨e, rfl⟩ : ∃ e, p = 6 + e := ⟨p - 6, by omega⟩
    have he : 0 ≤ e ∧ e < r 1 := by rcases hp with hp | hp <;> omega
    rw [show 6 + e - 6 = e by omega] at s2 s4
    rw [show 27 + (6 + e) - 6 = 27 + e by omega] at s3
    unfold m_depth at hv
    rw [if_neg (by omega), show 17 + (6 + e) - 6 = 17 + e by omega] at hv
    obtain ⟨g1, g2, g3⟩ := hG.2.1 e he.1 he.2
    have hs := hG.1.ed e he.1 (by have := hG.1.2.1; omega)
    have d1 := hG.1.dep (r (17 + e)) hs.1.1 hs.1.2
    have d2 := hG.1.dep (r (27 + e)) hs.2.1.1 hs.2.1.2
    subst s3 s4
    refine ⟨Or.inl (by omega), ?_, ?_⟩
    · rcases mv_rg hG.1 (e := e) (t := c) (by have := hG.1.2.1; omega) hc with q | q
      · exact absurd q s2
      · exact q
    · unfold m_depth
      rw [if_pos (by omega)]
      generalize hm : m_moved r e c = md at s2 ⊢
      unfold m_moved m_kind at hm
      generalize r (5 + r (27 + e)) = A at *
      generalize r (5 + r (17 + e)) = B at *
      generalize r (37 + e) = K at *
      (repeat' split at hm) <;> omega
theorem vt.reach {r : Int → Int} {a c q d : Int} (hG : GV r) (h : vt r a c) (s : Rc r a c q d) : vt r q d := s (vt r) h (fun p x q y hs st => hs.step hG st)
/-- which places a search has seen -/
def sn_ (fs : Int → Int) (sr : Int) : Int → Int := fun j => if fs j = sr then 1 else 0
theorem sn_fu {fs : Int → Int} {sr k : Int} : fu (sn_ fs sr) k 1 = sn_ (fu fs k sr) sr := by
  funext j
  unfold sn_
  by_cases e : j = k
  · rw [e, fu_s, fu_s, if_pos rfl]
  · rw [fu_n e, fu_n e]
/-- what addPlace leaves -/
def AP (fs fp : Int → Int) (pc sr k : Int) (fs' fp' : Int → Int) (pc' : Int) : Prop := (fs k = sr ∧ fs' = fs ∧ fp' = fp ∧ pc' = pc) ∨ (¬ fs k = sr ∧ fs' = fu fs k sr ∧ fp' = fu fp pc k ∧ pc' = pc + 1)
theorem AP.bf {r : Int → Int} {a c : Int} {fs fp ls : Int → Int} {pc sr q d : Int} {fs' fp' : Int → Int} {pc' : Int} (h : BF r a c (sn_ fs sr) fp pc ls) (hq : 0 ≤ q ∧ q < 16) (hd : 0 ≤ d ∧ d ≤ 99) (hr : Rc r a c q d) (g : AP fs fp pc sr (100 * q + d) fs' fp' pc') : (∃ ls', BF r a c (sn_ fs' sr) fp' pc' ls') ∧ sn_ fs' sr (100 * q + d) = 1 ∧ BM (sn_ fs sr) fp pc (sn_ fs' sr) fp' pc' := by
  rcases g with ⟨g1, rfl, rfl, rfl⟩ | ⟨g1, rfl, rfl, rfl⟩
  · exact ⟨⟨ls, h⟩, if_pos g1, BM.refl _ _ _⟩
  · have h0 : sn_ fs sr (100 * q + d) = 0 := if_neg g1
    have hb := h.push hq hd hr h0 rfl
    rw [sn_fu] at hb
    refine ⟨⟨_, hb⟩, if_pos fu_s, by omega, fun j hj => ?_, fun i hi => fu_n (by omega)⟩
    rw [← sn_fu]
    by_cases e : j = 100 * q + d
    · rw [e, fu_s]
    · rw [fu_n e]; exact hj
theorem AP.rg {fs fp : Int → Int} {pc sr k : Int} {fs' fp' : Int → Int} {pc' : Int} (g : AP fs fp pc sr k fs' fp' pc') (hs : 0 ≤ sr) (h : ∀ j, 0 ≤ j → j < 1600 → 0 ≤ fs j ∧ fs j ≤ sr) : ∀ j, 0 ≤ j → j < 1600 → 0 ≤ fs' j ∧ fs' j ≤ sr := by
  rcases g with ⟨g1, rfl, rfl, rfl⟩ | ⟨g1, rfl, rfl, rfl⟩
  · exact h
  · intro j j1 j2
    by_cases e : j = k
    · rw [e, fu_s]; omega
    · rw [fu_n e]; exact h j j1 j2
theorem AP.room {r : Int → Int} {a c : Int} {fs fp ls : Int → Int} {pc sr k : Int} (h : BF r a c (sn_ fs sr) fp pc ls) (hk : 0 ≤ k ∧ k < 1600) (hn : ¬ fs k = sr) : 0 ≤ pc ∧ pc < 1600 := ⟨h.1.1, h.room hk.1 hk.2 (if_neg hn)⟩
theorem BF.zero {r : Int → Int} {a c sr : Int} {fs fp : Int → Int} (h : ∀ j, 0 ≤ j → j < 1600 → fs j < sr) : BF r a c (sn_ fs sr) fp 0 (fun _ => -1) :=
  ⟨by omega, fun j j1 j2 => by unfold sn_; rw [if_neg (by have := h j j1 j2; omega)]; omega, cf_zero 1600 (fun j j1 j2 => if_neg (by have := h j j1 (by omega); omega)), fun i i1 i2 => absurd i2 (by omega), fun j j1 j2 hj => absurd hj (by unfold sn_; rw [if_neg (by have := h j j1 j2; omega)]; omega), fun p p1 p2 => Or.inl ⟨rfl, fun i i1 i2 => absurd i2 (by omega)⟩⟩
/-- the row of least counters over the places taken so far -/
def LR (row fp : Int → Int) (n : Int) : Prop := ∀ p, 0 ≤ p → p < 16 → (row p = -1 ∧ ∀ i, 0 ≤ i → i < n → ¬ fp i / 100 = p) ∨ ((0 ≤ row p ∧ row p ≤ 99) ∧ (∃ i, 0 ≤ i ∧ i < n ∧ fp i = 100 * p + row p) ∧ ∀ i, 0 ≤ i → i < n → fp i / 100 = p → row p ≤ fp i % 100)
theorem LR.bm {row fp fp' : Int → Int} {n : Int} (h : LR row fp n) (e : ∀ i, 0 ≤ i → i < n → fp' i = fp i) : LR row fp' n := by
  intro p p1 p2
  rcases h p p1 p2 with ⟨l1, l2⟩ | ⟨l1, ⟨i, i1, i2, i3⟩, l3⟩
  · exact Or.inl ⟨l1, fun i i1 i2 => by rw [e i i1 i2]; exact l2 i i1 i2⟩
  · exact Or.inr ⟨l1, ⟨i, i1, i2, by rw [e i i1 i2]; exact i3⟩, fun j j1 j2 => by rw [e j j1 j2]; exact l3 j j1 j2⟩
theorem LR.fin {r : Int → Int} {a c : Int} {rc fp ls row : Int → Int} {n : Int} (h : BF r a c rc fp n ls) (g : LR row fp n) {p : Int} (h1 : 0 ≤ p) (h2 : p < 16) : row p = ls p := by
  rcases g p h1 h2 with ⟨l1, l2⟩ | ⟨l1, ⟨i, i1, i2, i3⟩, l3⟩ <;> rcases h.2.2.2.2.2 p h1 h2 with ⟨k1, k2⟩ | ⟨k1, ⟨j, j1, j2, j3⟩, k3⟩
  · omega
  · exact absurd (show fp j / 100 = p by omega) (l2 j j1 j2)
  · exact absurd (show fp i / 100 = p by omega) (k2 i i1 i2)
  · have q1 := l3 j j1 j2 (by omega)
    have q2 := k3 i i1 i2 (by omega)
    omega
theorem LR.next {row fp : Int → Int} {n z : Int} (h : LR row fp n) (hn : 0 ≤ n) (hp : 0 ≤ fp n ∧ fp n < 1600) (hz : z = if row (fp n / 100) = -1 ∨ fp n % 100 < row (fp n / 100) then fp n % 100 else row (fp n / 100)) : LR (fu row (fp n / 100) z) fp (n + 1) := by
  intro p p1 p2
  by_cases e : p = fp n / 100
  · subst e
    rw [fu_s]
    right
    rcases h (fp n / 100) p1 p2 with ⟨l1, l2⟩ | ⟨l1, ⟨i, i1, i2, i3⟩, l3⟩
    · rw [if_pos (Or.inl l1)] at hz
      refine ⟨by omega, ⟨n, hn, by omega, by omega⟩, fun j j1 j2 j3 => ?_⟩
      by_cases ej : j = n
      · rw [ej]; omega
      · exact absurd j3 (l2 j j1 (by omega))
    · by_cases hlt : fp n % 100 < row (fp n / 100)
      · rw [if_pos (Or.inr hlt)] at hz
        refine ⟨by omega, ⟨n, hn, by omega, by omega⟩, fun j j1 j2 j3 => ?_⟩
        by_cases ej : j = n
        · rw [ej]; omega
        · have := l3 j j1 (by omega) j3; omega
      · rw [if_neg (by omega)] at hz
        refine ⟨by omega, ⟨i, i1, by omega, by omega⟩, fun j j1 j2 j3 => ?_⟩
        by_cases ej : j = n
        · rw [ej]; omega
        · have := l3 j j1 (by omega) j3; omega
  · rw [fu_n e]
    rcases h p p1 p2 with ⟨l1, l2⟩ | ⟨l1, ⟨i, i1, i2, i3⟩, l3⟩
    · refine Or.inl ⟨l1, fun j j1 j2 => ?_⟩
      by_cases ej : j = n
      · rw [ej]; omega
      · exact l2 j j1 (by omega)
    · refine Or.inr ⟨l1, ⟨i, i1, by omega, i3⟩, fun j j1 j2 j3 => ?_⟩
      by_cases ej : j = n
      · rw [ej] at j3; omega
      · exact l3 j j1 (by omega) j3
set_option maxRecDepth 100000 in
set_option maxHeartbeats 4000000 in
theorem c_X5_addPlace {X : Hp} {b : Nat} {y l i s p : Nat}  {pc gn sr : Int} {fl ff fs fp : Int → Int} (hM : YP X b y l i s p 25600 1600 1600 1600 pc gn sr fl ff fs fp) {x c : Int} (hx : 0 ≤ x ∧ x < 16) (hc : 0 ≤ c ∧ c ≤ 99) (hsr : 0 ≤ sr ∧ sr ≤ 1000000000) (hp : ¬ fs (100 * x + c) = sr → 0 ≤ pc ∧ pc < 1600) : Ct yX5_addPlace cX5_addPlace 4 none 0 0 [.ref y, vi x, vi c] X 0 0 (fun rv X' => rv = none ∧ ∃ fs' fp' pc', YPG X X' b y l i s p 25600 1600 1600 1600 pc' gn sr fl ff fs' fp' ∧ AP fs fp pc sr (100 * x + c) fs' fp' pc') := by
  refine Ct.of (by decide +kernel) [some (.ref y), some (vi x), some (vi c), none] rfl (Nat.le_of_ble_eq_true rfl) (fun φ hF hR => ?_)
  have hM := hM.gg
  refine j_iload_n hF dX5_addPlace_0 rfl (j_bipush hF dX5_addPlace_1 (by decide) (j_imul hF dX5_addPlace_3 (j_iload_n hF dX5_addPlace_4 rfl (j_iadd hF dX5_addPlace_5 ?_))))
  rw [show x * 100 + c = 100 * x + c by omega]
  refine j_istore_n hF dX5_addPlace_6 (Nat.le_of_ble_eq_true rfl) rfl (j_aload_n hF dX5_addPlace_7 rfl (j_get hF hM.1.1 fl_RX5_18 dX5_addPlace_8 rfl (j_iload_n hF dX5_addPlace_11 rfl (j_iald hF hM.1.2.2.2.1 dX5_addPlace_12 (by omega) (fun ra1 rb1 => ?_)))))
  refine j_aload_n hF dX5_addPlace_13 rfl (j_get hF hM.1.1 fl_RX5_49 dX5_addPlace_14 rfl (j_icmp_eq hF 50 dX5_addPlace_17 (by decide) (by omega) (fun c17 => ?_) (fun c17 => ?_)))
  ·
    refine j_vret hF hR dX5_addPlace_50 (by omega) (by omega) ?_
    first | exact ⟨rfl, _, _, _, hM, Or.inl ⟨c17, rfl, rfl, rfl⟩⟩ | exact ⟨rfl, _, _, _, hM, Or.inr ⟨c17, rfl, rfl, rfl⟩⟩
  ·
    have hq := hp c17
    refine j_aload_n hF dX5_addPlace_20 rfl (j_get hF hM.1.1 fl_RX5_18 dX5_addPlace_21 rfl (j_iload_n hF dX5_addPlace_24 rfl (j_aload_n hF dX5_addPlace_25 rfl (j_get hF hM.1.1 fl_RX5_49 dX5_addPlace_26 rfl (j_iast hF hM.1.2.2.2.1 dX5_addPlace_29 (by omega) (by omega) (j_nm (fun X2 eX2 => ?_)))))))
    have hM := hM.u_fs eX2
    refine j_aload_n hF dX5_addPlace_30 rfl (j_get hF hM.1.1 fl_RX5_21 dX5_addPlace_31 rfl (j_aload_n hF dX5_addPlace_34 rfl (j_get hF hM.1.1 fl_RX5_52 dX5_addPlace_35 rfl (j_iload_n hF dX5_addPlace_38 rfl (j_iast hF hM.1.2.2.2.2 dX5_addPlace_39 (by omega) (by omega) (j_nm (fun X3 eX3 => ?_)))))))
    have hM := hM.u_fp eX3
    refine j_aload_n hF dX5_addPlace_40 rfl (j_dup hF dX5_addPlace_41 rfl (j_get hF hM.1.1 fl_RX5_52 dX5_addPlace_42 rfl (j_iconst hF dX5_addPlace_45 (j_iadd hF dX5_addPlace_46 (j_put hF hM.1.1 fl_RX5_52 dX5_addPlace_47 rfl rfl (Nat.le_of_ble_eq_true rfl) (j_nm (fun X4 eX4 => ?_)))))))
    have hM := hM.u_pc eX4
    refine j_vret hF hR dX5_addPlace_50 (by omega) (by omega) ?_
    first | exact ⟨rfl, _, _, _, hM, Or.inl ⟨c17, rfl, rfl, rfl⟩⟩ | exact ⟨rfl, _, _, _, hM, Or.inr ⟨c17, rfl, rfl, rfl⟩⟩

set_option maxRecDepth 100000 in
set_option maxHeartbeats 4000000 in
theorem c_X5_forget {X : Hp} {b : Nat} {y l i s p : Nat} {n1 n2 n3 n4 : Nat} {pc gn sr : Int} {fl ff fs fp : Int → Int} (hM : YP X b y l i s p n1 n2 n3 n4 pc gn sr fl ff fs fp)  : Ct yX5_forget cX5_forget 1 none 0 0 [.ref y] X 0 0 (fun rv X' => rv = none ∧ YPG X X' b y l i s p n1 n2 n3 n4 pc (gn + 1) sr fl ff fs fp) := by
  refine Ct.of (by decide +kernel) [some (.ref y)] rfl (Nat.le_of_ble_eq_true rfl) (fun φ hF hR => ?_)
  have hM := hM.gg
  refine j_aload_n hF dX5_forget_0 rfl (j_dup hF dX5_forget_1 rfl (j_get hF hM.1.1 fl_RX5_24 dX5_forget_2 rfl (j_iconst hF dX5_forget_5 (j_iadd hF dX5_forget_6 (j_put hF hM.1.1 fl_RX5_24 dX5_forget_7 rfl rfl (Nat.le_of_ble_eq_true rfl) (j_nm (fun X1 eX1 => ?_)))))))
  have hM := hM.u_gn eX1
  refine j_vret hF hR dX5_forget_10 (by omega) (by omega) ?_
  exact ⟨rfl, hM⟩

set_option maxRecDepth 100000 in
set_option maxHeartbeats 4000000 in
theorem c_X5_makeRows {X : Hp} {b : Nat} {y l i s p : Nat} {n1 n2 n3 n4 : Nat} {pc gn sr : Int} {fl ff fs fp : Int → Int} (hM : YP X b y l i s p n1 n2 n3 n4 pc gn sr fl ff fs fp)  : Ct yX5_makeRows cX5_makeRows 1 none 0 0 [.ref y] X 4 30400 (fun rv X' => rv = none ∧ ∃ l' i' s' p', YPG X X' b y l' i' s' p' 25600 1600 1600 1600 pc gn sr (fun _ => 0) (fun _ => 0) (fun _ => 0) (fun _ => 0)) := by
  refine Ct.of (by decide +kernel) [some (.ref y)] rfl (Nat.le_of_ble_eq_true rfl) (fun φ hF hR => ?_)
  have h_y := hM.1
  have hfr := FB.refl b (b + 10) X
  refine j_aload_n hF dX5_makeRows_0 rfl (j_sipush hF dX5_makeRows_1 (by decide) (j_newi hF (b + 1) (25600) kl_ac dX5_makeRows_4 (by decide) (by omega) (by omega) (fun a_l1 hq1 => j_nm (fun X1 eX1 => ?_)) (by rfl)))
  have h_y := upn eX1 h_y hq1
  have h_l1 := ups eX1
  have hfr := hfr.trans (FB.new eX1 hq1)
  refine j_put hF h_y fl_RX5_11 dX5_makeRows_6 rfl rfl (Nat.le_of_ble_eq_true rfl) (j_nm (fun X2 eX2 => ?_))
  have hfr := hfr.trans (FB.up eX2 h_y (by omega) (by omega))
  have h_l1 := upx eX2 h_l1 h_y (by omega)
  have h_y := ups eX2
  refine j_aload_n hF dX5_makeRows_9 rfl (j_sipush hF dX5_makeRows_10 (by decide) (j_newi hF (b + 2) (1600) kl_ac dX5_makeRows_13 (by decide) (by omega) (by omega) (fun a_i1 hq3 => j_nm (fun X3 eX3 => ?_)) (by rfl)))
  have h_y := upn eX3 h_y hq3
  have h_l1 := upn eX3 h_l1 hq3
  have h_i1 := ups eX3
  have hfr := hfr.trans (FB.new eX3 hq3)
  refine j_put hF h_y fl_RX5_15 dX5_makeRows_15 rfl rfl (Nat.le_of_ble_eq_true rfl) (j_nm (fun X4 eX4 => ?_))
  have hfr := hfr.trans (FB.up eX4 h_y (by omega) (by omega))
  have h_l1 := upx eX4 h_l1 h_y (by omega)
  have h_i1 := upx eX4 h_i1 h_y (by omega)
  have h_y := ups eX4
  refine j_aload_n hF dX5_makeRows_18 rfl (j_sipush hF dX5_makeRows_19 (by decide) (j_newi hF (b + 3) (1600) kl_ac dX5_makeRows_22 (by decide) (by omega) (by omega) (fun a_s1 hq5 => j_nm (fun X5 eX5 => ?_)) (by rfl)))
  have h_y := upn eX5 h_y hq5
  have h_l1 := upn eX5 h_l1 hq5
  have h_i1 := upn eX5 h_i1 hq5
  have h_s1 := ups eX5
  have hfr := hfr.trans (FB.new eX5 hq5)
  refine j_put hF h_y fl_RX5_18 dX5_makeRows_24 rfl rfl (Nat.le_of_ble_eq_true rfl) (j_nm (fun X6 eX6 => ?_))
  have hfr := hfr.trans (FB.up eX6 h_y (by omega) (by omega))
  have h_l1 := upx eX6 h_l1 h_y (by omega)
  have h_i1 := upx eX6 h_i1 h_y (by omega)
  have h_s1 := upx eX6 h_s1 h_y (by omega)
  have h_y := ups eX6
  refine j_aload_n hF dX5_makeRows_27 rfl (j_sipush hF dX5_makeRows_28 (by decide) (j_newi hF (b + 4) (1600) kl_ac dX5_makeRows_31 (by decide) (by omega) (by omega) (fun a_p1 hq7 => j_nm (fun X7 eX7 => ?_)) (by rfl)))
  have h_y := upn eX7 h_y hq7
  have h_l1 := upn eX7 h_l1 hq7
  have h_i1 := upn eX7 h_i1 hq7
  have h_s1 := upn eX7 h_s1 hq7
  have h_p1 := ups eX7
  have hfr := hfr.trans (FB.new eX7 hq7)
  refine j_put hF h_y fl_RX5_21 dX5_makeRows_33 rfl rfl (Nat.le_of_ble_eq_true rfl) (j_nm (fun X8 eX8 => ?_))
  have hfr := hfr.trans (FB.up eX8 h_y (by omega) (by omega))
  have h_l1 := upx eX8 h_l1 h_y (by omega)
  have h_i1 := upx eX8 h_i1 h_y (by omega)
  have h_s1 := upx eX8 h_s1 h_y (by omega)
  have h_p1 := upx eX8 h_p1 h_y (by omega)
  have h_y := ups eX8
  refine j_vret hF hR dX5_makeRows_36 (by omega) (by omega) ?_
  exact ⟨rfl, a_l1, a_i1, a_s1, a_p1, ⟨h_y, h_l1, h_i1, h_s1, h_p1⟩, hfr⟩

set_option maxRecDepth 100000 in
set_option maxHeartbeats 4000000 in
theorem c_X5_init {X : Hp} {b y : Nat} (h_y : X y = some (b, ob 5 [.null, .null, .null, .null, vi 0, vi 0, vi 0])) : Ct yX5_init cX5_init 1 none 1 20 [.ref y] X 4 0 (fun rv X' => rv = none ∧ ∃ l' i' s' p', YPG X X' b y l' i' s' p' 0 0 0 0 0 1 0 (fun _ => 0) (fun _ => 0) (fun _ => 0) (fun _ => 0)) := by
  refine Ct.of (by decide +kernel) [some (.ref y)] rfl (Nat.le_of_ble_eq_true rfl) (fun φ hF hR => ?_)
  have hfr := FB.refl b (b + 10) X
  refine j_aload_n hF dX5_init_0 rfl (j_obj hF lk_RX5_5 kl_oi kl_oc dX5_init_1 rfl (by decide) (Nat.le_of_ble_eq_true rfl) (Nat.le_of_ble_eq_true rfl) ?_)
  refine j_aload_n hF dX5_init_4 rfl (j_iconst hF dX5_init_5 (j_newi hF (b + 1) (0) kl_ac dX5_init_6 (by decide) (by omega) (by omega) (fun a_l hq1 => j_nm (fun X1 eX1 => ?_)) (by rfl)))
  have h_y := upn eX1 h_y hq1
  have h_l := ups eX1
  have hfr := hfr.trans (FB.new eX1 hq1)
  refine j_put hF h_y fl_RX5_11 dX5_init_8 rfl rfl (Nat.le_of_ble_eq_true rfl) (j_nm (fun X2 eX2 => ?_))
  have hfr := hfr.trans (FB.up eX2 h_y (by omega) (by omega))
  have h_l := upx eX2 h_l h_y (by omega)
  have h_y := ups eX2
  refine j_aload_n hF dX5_init_11 rfl (j_iconst hF dX5_init_12 (j_newi hF (b + 2) (0) kl_ac dX5_init_13 (by decide) (by omega) (by omega) (fun a_i hq3 => j_nm (fun X3 eX3 => ?_)) (by rfl)))
  have h_y := upn eX3 h_y hq3
  have h_l := upn eX3 h_l hq3
  have h_i := ups eX3
  have hfr := hfr.trans (FB.new eX3 hq3)
  refine j_put hF h_y fl_RX5_15 dX5_init_15 rfl rfl (Nat.le_of_ble_eq_true rfl) (j_nm (fun X4 eX4 => ?_))
  have hfr := hfr.trans (FB.up eX4 h_y (by omega) (by omega))
  have h_l := upx eX4 h_l h_y (by omega)
  have h_i := upx eX4 h_i h_y (by omega)
  have h_y := ups eX4
  refine j_aload_n hF dX5_init_18 rfl (j_iconst hF dX5_init_19 (j_newi hF (b + 3) (0) kl_ac dX5_init_20 (by decide) (by omega) (by omega) (fun a_s hq5 => j_nm (fun X5 eX5 => ?_)) (by rfl)))
  have h_y := upn eX5 h_y hq5
  have h_l := upn eX5 h_l hq5
  have h_i := upn eX5 h_i hq5
  have h_s := ups eX5
  have hfr := hfr.trans (FB.new eX5 hq5)
  refine j_put hF h_y fl_RX5_18 dX5_init_22 rfl rfl (Nat.le_of_ble_eq_true rfl) (j_nm (fun X6 eX6 => ?_))
  have hfr := hfr.trans (FB.up eX6 h_y (by omega) (by omega))
  have h_l := upx eX6 h_l h_y (by omega)
  have h_i := upx eX6 h_i h_y (by omega)
  have h_s := upx eX6 h_s h_y (by omega)
  have h_y := ups eX6
  refine j_aload_n hF dX5_init_25 rfl (j_iconst hF dX5_init_26 (j_newi hF (b + 4) (0) kl_ac dX5_init_27 (by decide) (by omega) (by omega) (fun a_p hq7 => j_nm (fun X7 eX7 => ?_)) (by rfl)))
  have h_y := upn eX7 h_y hq7
  have h_l := upn eX7 h_l hq7
  have h_i := upn eX7 h_i hq7
  have h_s := upn eX7 h_s hq7
  have h_p := ups eX7
  have hfr := hfr.trans (FB.new eX7 hq7)
  refine j_put hF h_y fl_RX5_21 dX5_init_29 rfl rfl (Nat.le_of_ble_eq_true rfl) (j_nm (fun X8 eX8 => ?_))
  have hfr := hfr.trans (FB.up eX8 h_y (by omega) (by omega))
  have h_l := upx eX8 h_l h_y (by omega)
  have h_i := upx eX8 h_i h_y (by omega)
  have h_s := upx eX8 h_s h_y (by omega)
  have h_p := upx eX8 h_p h_y (by omega)
  have h_y := ups eX8
  refine j_aload_n hF dX5_init_32 rfl (j_iconst hF dX5_init_33 (j_put hF h_y fl_RX5_24 dX5_init_34 rfl rfl (Nat.le_of_ble_eq_true rfl) (j_nm (fun X9 eX9 => ?_))))
  have hfr := hfr.trans (FB.up eX9 h_y (by omega) (by omega))
  have h_l := upx eX9 h_l h_y (by omega)
  have h_i := upx eX9 h_i h_y (by omega)
  have h_s := upx eX9 h_s h_y (by omega)
  have h_p := upx eX9 h_p h_y (by omega)
  have h_y := ups eX9
  refine j_vret hF hR dX5_init_37 (by omega) (by omega) ?_
  exact ⟨rfl, a_l, a_i, a_s, a_p, ⟨h_y, h_l, h_i, h_s, h_p⟩, hfr⟩

