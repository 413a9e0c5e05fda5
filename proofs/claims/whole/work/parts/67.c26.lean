theorem ct_iff {r : Int → Int} {nc ec : Int} {fd fs fe fk : Int → Int} (hG : GI r) (h : GE r nc ec fd fs fe fk) {x t : Int} : c_time nc ec fd fs x t ↔ m_place r x ∧ m_time r x t := by
  obtain ⟨⟨g1, g2⟩, g3, g4⟩ := h
  subst g1; subst g2
  have b0 := hG.1
  have b1 := hG.2.1
  have ed : ((0 ≤ x ∧ x ≤ r 0 - 1) ∨ (6 ≤ x ∧ x - 6 ≤ r 1 - 1)) → c_dep fd fs x = m_depth r x := by
    intro hx
    unfold c_dep m_depth
    by_cases q : x < 6
    · rw [if_pos q, if_pos q, g3 x (by omega) (by omega)]
    · have e := g4 (x - 6) (by omega) (by omega)
      have gg := hG.ed (x - 6) (by omega) (by omega)
      have e2 : r (17 + (x - 6)) = r (17 + x - 6) := by congr 1; omega
      rw [if_neg q, if_neg q, e.1, g3 _ (by omega) (by omega), e2]
  unfold c_time m_place m_time
  constructor
  · rintro ⟨⟨h1, h2⟩, h3⟩
    rw [ed h1] at h3
    exact ⟨by omega, h2, h3⟩
  · rintro ⟨h1, h2, h3⟩
    have h1' : (0 ≤ x ∧ x ≤ r 0 - 1) ∨ (6 ≤ x ∧ x - 6 ≤ r 1 - 1) := by omega
    rw [← ed h1'] at h3
    exact ⟨⟨h1', h2⟩, h3⟩
theorem GE.rgd {r : Int → Int} {nc ec : Int} {fd fs fe fk : Int → Int} (hG : GI r) (h : GE r nc ec fd fs fe fk) : ∀ j, 0 ≤ j → j < 6 → 0 ≤ fd j ∧ fd j ≤ 2 := fun j j1 j2 => by rw [h.2.1 j j1 j2]; exact hG.2.2.1 j j1 j2
theorem GE.rgs {r : Int → Int} {nc : Int} {fd fs fe fk : Int → Int} (hG : GI r) (h : GE r nc (r 1) fd fs fe fk) : ∀ j, 0 ≤ j → j < r 1 → 0 ≤ fs j ∧ fs j < 6 := fun j j1 j2 => by rw [(h.2.2 j j1 j2).1]; have := hG.2.1; exact (hG.ed j j1 (by omega)).1
theorem cf_add (f g : Int → Int) : ∀ n : Nat, cf (fun i => f i + g i) n = cf f n + cf g n
  | 0 => rfl
  | n + 1 => by
    have h := cf_add f g n
    show cf (fun i => f i + g i) n + (f n + g n) = (cf f n + f n) + (cf g n + g n)
    omega
theorem cf_one (G : Int → Int) (a : Int) : ∀ n : Nat, cf (fun x => if a = x then G x else 0) n = if 0 ≤ a ∧ a < n then G a else 0
  | 0 => by rw [if_neg (by omega)]; rfl
  | n + 1 => by
    have h := cf_one G a n
    show cf (fun x => if a = x then G x else 0) n + (if a = (n : Int) then G n else 0) = _
    rw [h]
    by_cases q : a = (n : Int)
    · subst q
      rw [if_neg (by omega), if_pos rfl, if_pos (by omega)]; omega
    · rw [if_neg q]
      by_cases q2 : 0 ≤ a ∧ a < n
      · rw [if_pos q2, if_pos (by omega)]; omega
      · rw [if_neg q2, if_neg (by omega)]; omega
theorem cf_bag (G a : Int → Int) (K : Nat) : ∀ m : Nat, (∀ i : Int, 0 ≤ i → i < m → 0 ≤ a i ∧ a i < K) → cf (fun i => G (a i)) m = cf (fun x => G x * cf (fun i => if a i = x then 1 else 0) m) K
  | 0, _ => by
    have h : ∀ n : Nat, cf (fun x => G x * cf (fun i => if a i = x then 1 else 0) 0) n = 0 := fun n => by
      induction n with
      | zero => rfl
      | succ n ih => show cf _ n + G n * 0 = 0; rw [ih]; omega
    rw [h]; rfl
  | m + 1, ha => by
    have ih := cf_bag G a K m (fun i i1 i2 => ha i i1 (by omega))
    have hm := ha m (by omega) (by omega)
    have e1 := cf_one G (a m) K
    rw [if_pos hm] at e1
    show cf (fun i => G (a i)) m + G (a m) = _
    rw [ih, ← e1, ← cf_add]
    apply cf_ext
    intro x _ _
    show G x * cf (fun i => if a i = x then 1 else 0) m + (if a m = x then G x else 0) = G x * (cf (fun i => if a i = x then 1 else 0) m + (if a m = x then 1 else 0))
    by_cases q : a m = x
    · rw [if_pos q, if_pos q, Int.mul_add, Int.mul_one]
    · rw [if_neg q, if_neg q, Int.add_zero, Int.add_zero]
theorem cf_ex {f : Int → Int} : ∀ n : Nat, ¬ cf f n = 0 → ∃ i : Int, 0 ≤ i ∧ i < n ∧ ¬ f i = 0
  | 0, h => absurd rfl h
  | n + 1, h => by
    by_cases q : f n = 0
    · obtain ⟨i, i1, i2, i3⟩ := cf_ex n (fun g => h (by show cf f n + f n = 0; rw [g, q]; rfl))
      exact ⟨i, i1, by omega, i3⟩
    · exact ⟨n, by omega, by omega, q⟩
theorem cf_nz {f : Int → Int} (hf : ∀ i, 0 ≤ f i) : ∀ (n : Nat) (i : Int), 0 ≤ i → i < n → ¬ f i = 0 → 0 < cf f n
  | 0, i, h1, h2, _ => absurd h2 (by omega)
  | n + 1, i, h1, h2, h3 => by
    have p0 := hf n
    have p1 : ∀ m : Nat, 0 ≤ cf f m := fun m => by
      induction m with
      | zero => exact Int.le_refl _
      | succ m ih => have := hf m; show 0 ≤ cf f m + f m; omega
    have p2 := p1 n
    show 0 < cf f n + f n
    by_cases q : i = (n : Int)
    · have := hf i; rw [q] at this h3; omega
    · have := cf_nz hf n i h1 (by omega) h3; omega
theorem bag_mem {a b : Int → Int} {m : Nat} (h : ∀ x, cf (fun i => if a i = x then 1 else 0) m = cf (fun i => if b i = x then 1 else 0) m) {i : Int} (h1 : 0 ≤ i) (h2 : i < m) : ∃ j : Int, 0 ≤ j ∧ j < m ∧ b j = a i := by
  have p := cf_nz (f := fun j => if a j = a i then (1 : Int) else 0) (fun j => by show 0 ≤ (if a j = a i then (1 : Int) else 0); split <;> omega) m i h1 h2 (by show ¬ (if a i = a i then (1 : Int) else 0) = 0; rw [if_pos rfl]; omega)
  rw [h (a i)] at p
  obtain ⟨j, j1, j2, j3⟩ := cf_ex m (show ¬ cf (fun j => if b j = a i then (1 : Int) else 0) m = 0 by omega)
  refine ⟨j, j1, j2, Classical.byContradiction fun q => j3 ?_⟩
  show (if b j = a i then (1 : Int) else 0) = 0
  rw [if_neg q]
def AP_ (r : Int → Int) : Prop := ∀ x, 0 ≤ x → x < 24 → 0 ≤ r (309 + x) ∧ r (309 + x) < 6
theorem HS.rg {r ft : Int → Int} {w i : Int} (h : HS r ft w) (hA : AS r) (hT : AT r) (hP : AP_ r) (hw : 0 ≤ w ∧ w ≤ 1) (h1 : 0 ≤ i) (h2 : i < r (307 + w)) : 0 ≤ ft (12 * w + i) ∧ ft (12 * w + i) < 16000 := by
  have a1 := hA w hw.1 (by omega)
  obtain ⟨j, j1, j2, j3⟩ := bag_mem (a := fun i => ft (12 * w + i)) (b := fun i => 1000 * r (309 + (12 * w + i)) + r (333 + (12 * w + i))) h h1 (by omega)
  have t1 := hT (12 * w + j) (by omega) (by omega)
  have t2 := hP (12 * w + j) (by omega) (by omega)
  have j4 : 1000 * r (309 + (12 * w + j)) + r (333 + (12 * w + j)) = ft (12 * w + i) := j3
  omega
theorem HS.asked {r ft : Int → Int} {w nd : Int} (h : HS r ft w) (hA : AS r) (hT : AT r) (hP : AP_ r) (hw : 0 ≤ w ∧ w ≤ 1) : cf (fun i => if ft (12 * w + i) / 1000 = nd then 1 else 0) (r (307 + w)).toNat = m_asked r w nd := by
  have a1 := hA w hw.1 (by omega)
  have e1 := cf_bag (fun y => if y / 1000 = nd then 1 else 0) (fun i => ft (12 * w + i)) 16000 (r (307 + w)).toNat (fun i i1 i2 => h.rg hA hT hP hw i1 (by omega))
  have e2 := cf_bag (fun y => if y / 1000 = nd then 1 else 0) (fun i => 1000 * r (309 + (12 * w + i)) + r (333 + (12 * w + i))) 16000 (r (307 + w)).toNat (fun i i1 i2 => by
    have t1 := hT (12 * w + i) (by omega) (by omega)
    have t2 := hP (12 * w + i) (by omega) (by omega)
    show 0 ≤ 1000 * r (309 + (12 * w + i)) + r (333 + (12 * w + i)) ∧ 1000 * r (309 + (12 * w + i)) + r (333 + (12 * w + i)) < (16000 : Nat)
    omega)
  have e3 : cf (fun x => (fun y => if y / 1000 = nd then (1 : Int) else 0) x * cf (fun i => if (fun i => ft (12 * w + i)) i = x then 1 else 0) (r (307 + w)).toNat) 16000 = cf (fun x => (fun y => if y / 1000 = nd then (1 : Int) else 0) x * cf (fun i => if (fun i => 1000 * r (309 + (12 * w + i)) + r (333 + (12 * w + i))) i = x then 1 else 0) (r (307 + w)).toNat) 16000 := by
    apply cf_ext
    intro x _ _
    exact congrArg (fun z => (if x / 1000 = nd then (1 : Int) else 0) * z) (h x)
  refine (e1.trans (e3.trans e2.symm)).trans ?_
  unfold m_asked
  apply cf_ext
  intro i i1 i2
  have t1 := hT (12 * w + i) (by omega) (by omega)
  show (if (1000 * r (309 + (12 * w + i)) + r (333 + (12 * w + i))) / 1000 = nd then (1 : Int) else 0) = (if r (309 + (12 * w + i)) = nd then (1 : Int) else 0)
  rw [show (1000 * r (309 + (12 * w + i)) + r (333 + (12 * w + i))) / 1000 = r (309 + (12 * w + i)) by omega]
set_option maxRecDepth 100000 in
set_option maxHeartbeats 4000000 in
theorem c_X7_kind {X : Hp} {pt kap : Nat} {ct : Int} {r pf : Int → Int} {sv : Int} {er : Int → Int} (hP : PP X pt kap ct (r, pf, sv, er)) (hGV : GV r) (hE : EI er)  {e : Int} (h_e : -2147483648 ≤ e ∧ e ≤ 2147483647) : Cv yX7_kind cX7_kind 2 (some .int) 1 21 [.ref pt, vi e] X (393155 - kap) (6 * (393155 - kap)) (fun rv X' kk nn => rv = some (vi (sp_kind (r, pf, sv, er) e).1) ∧ PPQ X X' pt kap (ct + 1) (sp_kind (r, pf, sv, er) e).2 kk nn) := by
  refine Cv.of (by decide +kernel) [some (.ref pt), some (vi e)] rfl (Nat.le_of_ble_eq_true rfl) (fun φ hF hR => ?_)
  obtain ⟨ea, sa, y, st, B, mk, gn, kn, kr, hO, hea, hWR, hgn, hST, hkap⟩ := id hP
  dsimp only at hO hea hWR hST
  obtain ⟨g, ml, ws, va, qa, oe, dc, v_, q_, n_, m_, z_, f_, hS, hV, hQ, hk_⟩ := id hST
  obtain ⟨av, aq, ao, af, h1, ⟨ga, gb, gc, gd, nc, ec, jd, js, je, jk, hGP, hGE⟩, ⟨mz, mt, yz, yt, hMP, x1, x2⟩, ⟨wz, wt, uz, ut, hWP, x3⟩, h5, h6, h7, h8, h9, h10, h11⟩ := id hS
  obtain ⟨g1, g1'⟩ := id hGE.1
  subst g1
  subst g1'
  have hpt := hO.pt.1
  have hLB := hO.pt.2
  unfold LB at hLB
  have b0 := hGV.1.1
  have b1 := hGV.1.2.1
  have hP2 := hP
  have hF2 := FB.refl 0 5000 X
  refine j_aload_n hF dX7_kind_0 rfl (j_get hF hpt fl_RX7_27 dX7_kind_1 rfl (j_get hF h1 fl_RX7_43 dX7_kind_4 rfl (j_iload_n hF dX7_kind_7 rfl (j_callV hF (c_X0_hasEdge hGP (by omega) (by omega)) ms_X0_hasEdge mv_X0_hasEdge lk_RX7_80 dX7_kind_8 hGP.1 rfl rfl rfl (by simp [Value.category]) ⟨⟨(Nat.le_of_ble_eq_true rfl), (Nat.le_of_ble_eq_true rfl)⟩, by omega, by omega⟩ (fun v1 X1 hp1 hE1 => ?_)))))
  obtain ⟨rfl, he1⟩ := hp1; obtain rfl := he1.symm
  refine j_b_ne hF 21 dX7_kind_11 (by decide) (fun c11 => ?_) (fun c11 => ?_)
  ·
    refine j_aload_n hF dX7_kind_21 rfl (j_get hF hpt fl_RX7_27 dX7_kind_22 rfl (j_get hF h1 fl_RX7_43 dX7_kind_25 rfl (j_get hF hGP.1 fl_RX7_83 dX7_kind_28 rfl (j_iload_n hF dX7_kind_31 rfl (j_iald hF hGP.2.2.2.2 dX7_kind_32 (by omega) (fun ra2 rb2 => ?_))))))
    rw [(hGE.2.2 e c11.1 (by omega)).2.2]
    refine j_iretv hF hR dX7_kind_33 (by omega) (by omega) ?_
    refine PV ?_ (hP2.mono (by omega)) hF2 (by omega) (by omega) (by omega)
    unfold sp_kind
    first | exact pif_t c11 | exact pif_f c11
  ·
    refine j_aload_n hF dX7_kind_14 rfl (j_bipush hF dX7_kind_15 (by decide) (j_callV hF (c_X7_fail hP hE (by omega)) ms_X7_fail mv_X7_fail lk_RX7_35 dX7_kind_17 hpt rfl rfl rfl (by simp [Value.category]) ⟨⟨(Nat.le_of_ble_eq_true rfl), (Nat.le_of_ble_eq_true rfl)⟩, by omega, by omega⟩ (fun v3 X3 hp3 hE3 => ?_)))
    obtain ⟨rfl, hP2, hF2⟩ := hp3
    refine j_iretv hF hR dX7_kind_20 (by omega) (by omega) ?_
    refine PV ?_ (hP2.mono (by omega)) hF2 (by omega) (by omega) (by omega)
    unfold sp_kind
    first | exact pif_t c11 | exact pif_f c11

set_option maxRecDepth 100000 in
set_option maxHeartbeats 4000000 in
theorem c_X7_move {X : Hp} {pt kap : Nat} {ct : Int} {r pf : Int → Int} {sv : Int} {er : Int → Int} (hP : PP X pt kap ct (r, pf, sv, er)) (hGV : GV r) (hE : EI er)  {e t : Int} (h_e : -2147483648 ≤ e ∧ e ≤ 2147483647) (h_t : -2147483648 ≤ t ∧ t ≤ 2147483647) : Cv yX7_move cX7_move 3 (some .int) 3 65 [.ref pt, vi e, vi t] X (393155 - kap) (6 * (393155 - kap)) (fun rv X' kk nn => rv = some (vi (sp_move (r, pf, sv, er) e t).1) ∧ PPQ X X' pt kap (ct + 1) (sp_move (r, pf, sv, er) e t).2 kk nn) := by
  refine Cv.of (by decide +kernel) [some (.ref pt), some (vi e), some (vi t)] rfl (Nat.le_of_ble_eq_true rfl) (fun φ hF hR => ?_)
  obtain ⟨ea, sa, y, st, B, mk, gn, kn, kr, hO, hea, hWR, hgn, hST, hkap⟩ := id hP
  dsimp only at hO hea hWR hST
  obtain ⟨g, ml, ws, va, qa, oe, dc, v_, q_, n_, m_, z_, f_, hS, hV, hQ, hk_⟩ := id hST
  obtain ⟨av, aq, ao, af, h1, ⟨ga, gb, gc, gd, nc, ec, jd, js, je, jk, hGP, hGE⟩, ⟨mz, mt, yz, yt, hMP, x1, x2⟩, ⟨wz, wt, uz, ut, hWP, x3⟩, h5, h6, h7, h8, h9, h10, h11⟩ := id hS
  obtain ⟨g1, g1'⟩ := id hGE.1
  subst g1
  subst g1'
  have hpt := hO.pt.1
  have hLB := hO.pt.2
  unfold LB at hLB
  have b0 := hGV.1.1
  have b1 := hGV.1.2.1
  have hP2 := hP
  have hF2 := FB.refl 0 5000 X
  refine j_aload_n hF dX7_move_0 rfl (j_get hF hpt fl_RX7_27 dX7_move_1 rfl (j_get hF h1 fl_RX7_43 dX7_move_4 rfl (j_iload_n hF dX7_move_7 rfl (j_callV hF (c_X0_hasEdge hGP (by omega) (by omega)) ms_X0_hasEdge mv_X0_hasEdge lk_RX7_80 dX7_move_8 hGP.1 rfl rfl rfl (by simp [Value.category]) ⟨⟨(Nat.le_of_ble_eq_true rfl), (Nat.le_of_ble_eq_true rfl)⟩, by omega, by omega⟩ (fun v1 X1 hp1 hE1 => ?_)))))
  obtain ⟨rfl, he1⟩ := hp1; obtain rfl := he1.symm
  refine j_b_eq hF 32 dX7_move_11 (by decide) (fun c11 => ?_) (fun c11 => ?_)
  ·
    refine j_aload_n hF dX7_move_32 rfl (j_bipush hF dX7_move_33 (by decide) (j_callV hF (c_X7_fail hP hE (by omega)) ms_X7_fail mv_X7_fail lk_RX7_35 dX7_move_35 hpt rfl rfl rfl (by simp [Value.category]) ⟨⟨(Nat.le_of_ble_eq_true rfl), (Nat.le_of_ble_eq_true rfl)⟩, by omega, by omega⟩ (fun v2 X2 hp2 hE2 => ?_)))
    obtain ⟨rfl, hP2, hF2⟩ := hp2
    refine j_iretv hF hR dX7_move_38 (by omega) (by omega) ?_
    refine PV ?_ (hP2.mono (by omega)) hF2 (by omega) (by omega) (by omega)
    unfold sp_move
    first | exact pif_t ⟨c11, c29.2⟩ | exact pif_f (fun h => c11 h.1) | exact pif_f (fun h => c29 ⟨Or.inr ⟨by omega, by omega⟩, h.2⟩)
  ·
    refine j_aload_n hF dX7_move_14 rfl (j_get hF hpt fl_RX7_27 dX7_move_15 rfl (j_get hF h1 fl_RX7_43 dX7_move_18 rfl (j_bipush hF dX7_move_21 (by decide) (j_iload_n hF dX7_move_23 rfl (j_iadd hF dX7_move_24 ?_)))))
    refine j_iload_n hF dX7_move_25 rfl (j_callV hF (c_X0_hasTime hGP (by omega) (by omega) (by omega) (by omega) (hGE.rgd hGV.1) (hGE.rgs hGV.1)) ms_X0_hasTime mv_X0_hasTime lk_RX7_86 dX7_move_26 hGP.1 rfl rfl rfl (by simp [Value.category]) ⟨⟨(Nat.le_of_ble_eq_true rfl), (Nat.le_of_ble_eq_true rfl)⟩, by omega, by omega⟩ (fun v3 X3 hp3 hE3 => ?_))
    obtain ⟨rfl, he3⟩ := hp3; obtain rfl := he3.symm
    rw [bz_iff (ct_iff hGV.1 hGE)]
    refine j_b_ne hF 39 dX7_move_29 (by decide) (fun c29 => ?_) (fun c29 => ?_)
    ·
      refine j_aload_n hF dX7_move_39 rfl (j_get hF hpt fl_RX7_27 dX7_move_40 rfl (j_get hF h1 fl_RX7_43 dX7_move_43 rfl (j_iload_n hF dX7_move_46 rfl (j_iload_n hF dX7_move_47 rfl ?_))))
      have hr6 := hGV.1.ed e c11.1 (by omega)
      have hge := hGE.2.2 e c11.1 (by omega)
      have hs6 : 0 ≤ js e ∧ js e < 6 := by rw [hge.1]; exact hr6.1
      have hd2 := hGE.rgd hGV.1 (js e) hs6.1 hs6.2
      have hk3 : 0 ≤ jk e ∧ jk e ≤ 3 := by
        rw [hge.2.2]
        unfold m_kind
        (repeat' split) <;> omega
      refine j_callV hF (c_X0_timeAfter hGP (by omega) c29.2.1 hs6 hd2 hk3) ms_X0_timeAfter mv_X0_timeAfter lk_RX7_90 dX7_move_48 hGP.1 rfl rfl rfl (by simp [Value.category]) ⟨⟨(Nat.le_of_ble_eq_true rfl), (Nat.le_of_ble_eq_true rfl)⟩, by omega, by omega⟩ (fun v4 X4 hp4 hE4 => ?_)
      obtain ⟨rfl, he4⟩ := hp4; obtain rfl := he4.symm
      rw [moved_eq hGV ⟨c11.1, by omega⟩ c29.2.1 hge.2.2 (by rw [hge.1, hGE.2.1 _ hr6.1.1 hr6.1.2]) (by have q := c29.2.2; unfold m_depth at q; rw [if_neg (by omega), show 17 + (6 + e) - 6 = 17 + e by omega] at q; exact q)]
      refine j_iretv hF hR dX7_move_51 (by omega) (by omega) ?_
      refine PV ?_ (hP2.mono (by omega)) hF2 (by omega) (by omega) (by omega)
      unfold sp_move
      first | exact pif_t ⟨c11, c29.2⟩ | exact pif_f (fun h => c11 h.1) | exact pif_f (fun h => c29 ⟨Or.inr ⟨by omega, by omega⟩, h.2⟩)
    ·
      refine j_aload_n hF dX7_move_32 rfl (j_bipush hF dX7_move_33 (by decide) (j_callV hF (c_X7_fail hP hE (by omega)) ms_X7_fail mv_X7_fail lk_RX7_35 dX7_move_35 hpt rfl rfl rfl (by simp [Value.category]) ⟨⟨(Nat.le_of_ble_eq_true rfl), (Nat.le_of_ble_eq_true rfl)⟩, by omega, by omega⟩ (fun v5 X5 hp5 hE5 => ?_)))
      obtain ⟨rfl, hP2, hF2⟩ := hp5
      refine j_iretv hF hR dX7_move_38 (by omega) (by omega) ?_
      refine PV ?_ (hP2.mono (by omega)) hF2 (by omega) (by omega) (by omega)
      unfold sp_move
      first | exact pif_t ⟨c11, c29.2⟩ | exact pif_f (fun h => c11 h.1) | exact pif_f (fun h => c29 ⟨Or.inr ⟨by omega, by omega⟩, h.2⟩)

set_option maxRecDepth 100000 in
set_option maxHeartbeats 4000000 in
theorem c_X7_errorCount {X : Hp} {pt kap : Nat} {ct : Int} {r pf : Int → Int} {sv : Int} {er : Int → Int} (hP : PP X pt kap ct (r, pf, sv, er)) (hGV : GV r) (hE : EI er)  {c : Int} (h_c : -2147483648 ≤ c ∧ c ≤ 2147483647) : Cv yX7_errorCount cX7_errorCount 2 (some .int) 1 21 [.ref pt, vi c] X (393155 - kap) (6 * (393155 - kap)) (fun rv X' kk nn => rv = some (vi (sp_errorCount (r, pf, sv, er) c).1) ∧ PPQ X X' pt kap (ct + 1) (sp_errorCount (r, pf, sv, er) c).2 kk nn) := by
  refine Cv.of (by decide +kernel) [some (.ref pt), some (vi c)] rfl (Nat.le_of_ble_eq_true rfl) (fun φ hF hR => ?_)
  obtain ⟨ea, sa, y, st, B, mk, gn, kn, kr, hO, hea, hWR, hgn, hST, hkap⟩ := id hP
  dsimp only at hO hea hWR hST
  obtain ⟨g, ml, ws, va, qa, oe, dc, v_, q_, n_, m_, z_, f_, hS, hV, hQ, hk_⟩ := id hST
  obtain ⟨av, aq, ao, af, h1, ⟨ga, gb, gc, gd, nc, ec, jd, js, je, jk, hGP, hGE⟩, ⟨mz, mt, yz, yt, hMP, x1, x2⟩, ⟨wz, wt, uz, ut, hWP, x3⟩, h5, h6, h7, h8, h9, h10, h11⟩ := id hS
  obtain ⟨g1, g1'⟩ := id hGE.1
  subst g1
  subst g1'
  have hpt := hO.pt.1
  have hLB := hO.pt.2
  unfold LB at hLB
  have b0 := hGV.1.1
  have b1 := hGV.1.2.1
  have hP2 := hP
  have hF2 := FB.refl 0 5000 X
  refine j_iload_n hF dX7_errorCount_0 rfl (j_bipush hF dX7_errorCount_1 (by decide) (j_icmp_lt hF 12 dX7_errorCount_3 (by decide) (by omega) (fun c3 => ?_) (fun c3 => ?_)))
  ·
    refine j_aload_n hF dX7_errorCount_12 rfl (j_bipush hF dX7_errorCount_13 (by decide) (j_callV hF (c_X7_fail hP hE (by omega)) ms_X7_fail mv_X7_fail lk_RX7_35 dX7_errorCount_15 hpt rfl rfl rfl (by simp [Value.category]) ⟨⟨(Nat.le_of_ble_eq_true rfl), (Nat.le_of_ble_eq_true rfl)⟩, by omega, by omega⟩ (fun v1 X1 hp1 hE1 => ?_)))
    obtain ⟨rfl, hP2, hF2⟩ := hp1
    refine j_iretv hF hR dX7_errorCount_18 (by omega) (by omega) ?_
    refine PV ?_ (hP2.mono (by omega)) hF2 (by omega) (by omega) (by omega)
    unfold sp_errorCount
    first | exact pif_t ⟨c3, c9⟩ | exact pif_f (fun h => absurd h.1 (Int.not_le.mpr c3)) | exact pif_f (fun h => absurd h.2 (by omega))
  ·
    refine j_iload_n hF dX7_errorCount_6 rfl (j_bipush hF dX7_errorCount_7 (by decide) (j_icmp_le hF 19 dX7_errorCount_9 (by decide) (by omega) (fun c9 => ?_) (fun c9 => ?_)))
    ·
      refine j_aload_n hF dX7_errorCount_19 rfl (j_get hF hpt fl_RX7_9 dX7_errorCount_20 rfl (j_bipush hF dX7_errorCount_23 (by decide) (j_iload_n hF dX7_errorCount_25 rfl (j_isub hF dX7_errorCount_26 (j_iald hF hea dX7_errorCount_27 (by omega) (fun ra2 rb2 => ?_))))))
      refine j_iretv hF hR dX7_errorCount_28 (by omega) (by omega) ?_
      refine PV ?_ (hP2.mono (by omega)) hF2 (by omega) (by omega) (by omega)
      unfold sp_errorCount
      first | exact pif_t ⟨c3, c9⟩ | exact pif_f (fun h => absurd h.1 (Int.not_le.mpr c3)) | exact pif_f (fun h => absurd h.2 (by omega))
    ·
      refine j_aload_n hF dX7_errorCount_12 rfl (j_bipush hF dX7_errorCount_13 (by decide) (j_callV hF (c_X7_fail hP hE (by omega)) ms_X7_fail mv_X7_fail lk_RX7_35 dX7_errorCount_15 hpt rfl rfl rfl (by simp [Value.category]) ⟨⟨(Nat.le_of_ble_eq_true rfl), (Nat.le_of_ble_eq_true rfl)⟩, by omega, by omega⟩ (fun v3 X3 hp3 hE3 => ?_)))
      obtain ⟨rfl, hP2, hF2⟩ := hp3
      refine j_iretv hF hR dX7_errorCount_18 (by omega) (by omega) ?_
      refine PV ?_ (hP2.mono (by omega)) hF2 (by omega) (by omega) (by omega)
      unfold sp_errorCount
      first | exact pif_t ⟨c3, c9⟩ | exact pif_f (fun h => absurd h.1 (Int.not_le.mpr c3)) | exact pif_f (fun h => absurd h.2 (by omega))

set_option maxRecDepth 100000 in
set_option maxHeartbeats 4000000 in
theorem c_X7_pending {X : Hp} {pt kap : Nat} {ct : Int} {r pf : Int → Int} {sv : Int} {er : Int → Int} (hP : PP X pt kap ct (r, pf, sv, er)) (hGV : GV r) (hE : EI er)  {w : Int} (h_w : -2147483648 ≤ w ∧ w ≤ 2147483647) : Cv yX7_pending cX7_pending 2 (some .int) 1 21 [.ref pt, vi w] X (393155 - kap) (6 * (393155 - kap)) (fun rv X' kk nn => rv = some (vi (sp_pending (r, pf, sv, er) w).1) ∧ PPQ X X' pt kap (ct + 1) (sp_pending (r, pf, sv, er) w).2 kk nn) := by
  refine Cv.of (by decide +kernel) [some (.ref pt), some (vi w)] rfl (Nat.le_of_ble_eq_true rfl) (fun φ hF hR => ?_)
  obtain ⟨ea, sa, y, st, B, mk, gn, kn, kr, hO, hea, hWR, hgn, hST, hkap⟩ := id hP
  dsimp only at hO hea hWR hST
  obtain ⟨g, ml, ws, va, qa, oe, dc, v_, q_, n_, m_, z_, f_, hS, hV, hQ, hk_⟩ := id hST
  obtain ⟨av, aq, ao, af, h1, ⟨ga, gb, gc, gd, nc, ec, jd, js, je, jk, hGP, hGE⟩, ⟨mz, mt, yz, yt, hMP, x1, x2⟩, ⟨wz, wt, uz, ut, hWP, x3⟩, h5, h6, h7, h8, h9, h10, h11⟩ := id hS
  obtain ⟨g1, g1'⟩ := id hGE.1
  subst g1
  subst g1'
  have hpt := hO.pt.1
  have hLB := hO.pt.2
  unfold LB at hLB
  have b0 := hGV.1.1
  have b1 := hGV.1.2.1
  have hP2 := hP
  have hF2 := FB.refl 0 5000 X
  refine j_iload_n hF dX7_pending_0 rfl (j_callS hF (c_X7_isWorker (by omega)) ms_X7_isWorker mt_X7_isWorker lk_RX7_111 dX7_pending_1 rfl rfl rfl (by simp [Value.category]) ⟨⟨(Nat.le_of_ble_eq_true rfl), (Nat.le_of_ble_eq_true rfl)⟩, by omega, by omega⟩ (fun v1 X1 hp1 hE1 => ?_))
  obtain ⟨rfl, he1⟩ := hp1; obtain rfl := he1.symm
  refine j_b_ne hF 14 dX7_pending_4 (by decide) (fun c4 => ?_) (fun c4 => ?_)
  ·
    obtain ⟨qu, fq2, hQP, -⟩ := hQ w c4.1 c4.2
    refine j_aload_n hF dX7_pending_14 rfl (j_get hF hpt fl_RX7_27 dX7_pending_15 rfl (j_get hF h1 fl_RX7_185 dX7_pending_18 rfl (j_iload_n hF dX7_pending_21 rfl (j_aald hF (by decide) h6 dX7_pending_22 (by omega) (h9 w c4.1 c4.2).2 (j_get hF hQP.1 fl_RX7_225 dX7_pending_23 rfl ?_)))))
    refine j_iretv hF hR dX7_pending_26 (by omega) (by omega) ?_
    refine PV ?_ (hP2.mono (by omega)) hF2 (by omega) (by omega) (by omega)
    unfold sp_pending
    first | exact pif_t c4 | exact pif_f c4
  ·
    refine j_aload_n hF dX7_pending_7 rfl (j_bipush hF dX7_pending_8 (by decide) (j_callV hF (c_X7_fail hP hE (by omega)) ms_X7_fail mv_X7_fail lk_RX7_35 dX7_pending_10 hpt rfl rfl rfl (by simp [Value.category]) ⟨⟨(Nat.le_of_ble_eq_true rfl), (Nat.le_of_ble_eq_true rfl)⟩, by omega, by omega⟩ (fun v2 X2 hp2 hE2 => ?_)))
    obtain ⟨rfl, hP2, hF2⟩ := hp2
    refine j_iretv hF hR dX7_pending_13 (by omega) (by omega) ?_
    refine PV ?_ (hP2.mono (by omega)) hF2 (by omega) (by omega) (by omega)
    unfold sp_pending
    first | exact pif_t c4 | exact pif_f c4

set_option maxRecDepth 100000 in
set_option maxHeartbeats 4000000 in
theorem c_X7_messages {X : Hp} {pt kap : Nat} {ct : Int} {r pf : Int → Int} {sv : Int} {er : Int → Int} (hP : PP X pt kap ct (r, pf, sv, er)) (hGV : GV r) (hE : EI er)  {w e : Int} (h_w : -2147483648 ≤ w ∧ w ≤ 2147483647) (h_e : -2147483648 ≤ e ∧ e ≤ 2147483647) : Cv yX7_messages cX7_messages 3 (some .int) 1 22 [.ref pt, vi w, vi e] X (393155 - kap) (6 * (393155 - kap)) (fun rv X' kk nn => rv = some (vi (sp_messages (r, pf, sv, er) w e).1) ∧ PPQ X X' pt kap (ct + 1) (sp_messages (r, pf, sv, er) w e).2 kk nn) := by
  refine Cv.of (by decide +kernel) [some (.ref pt), some (vi w), some (vi e)] rfl (Nat.le_of_ble_eq_true rfl) (fun φ hF hR => ?_)
  obtain ⟨ea, sa, y, st, B, mk, gn, kn, kr, hO, hea, hWR, hgn, hST, hkap⟩ := id hP
  dsimp only at hO hea hWR hST
  obtain ⟨g, ml, ws, va, qa, oe, dc, v_, q_, n_, m_, z_, f_, hS, hV, hQ, hk_⟩ := id hST
  obtain ⟨av, aq, ao, af, h1, ⟨ga, gb, gc, gd, nc, ec, jd, js, je, jk, hGP, hGE⟩, ⟨mz, mt, yz, yt, hMP, x1, x2⟩, ⟨wz, wt, uz, ut, hWP, x3⟩, h5, h6, h7, h8, h9, h10, h11⟩ := id hS
  obtain ⟨g1, g1'⟩ := id hGE.1
  subst g1
  subst g1'
  have hpt := hO.pt.1
  have hLB := hO.pt.2
  unfold LB at hLB
  have b0 := hGV.1.1
  have b1 := hGV.1.2.1
  have hP2 := hP
  have hF2 := FB.refl 0 5000 X
  refine j_iload_n hF dX7_messages_0 rfl (j_callS hF (c_X7_isWorker (by omega)) ms_X7_isWorker mt_X7_isWorker lk_RX7_111 dX7_messages_1 rfl rfl rfl (by simp [Value.category]) ⟨⟨(Nat.le_of_ble_eq_true rfl), (Nat.le_of_ble_eq_true rfl)⟩, by omega, by omega⟩ (fun v1 X1 hp1 hE1 => ?_))
  obtain ⟨rfl, he1⟩ := hp1; obtain rfl := he1.symm
  refine j_b_eq hF 21 dX7_messages_4 (by decide) (fun c4 => ?_) (fun c4 => ?_)
  ·
    refine j_aload_n hF dX7_messages_21 rfl (j_bipush hF dX7_messages_22 (by decide) (j_callV hF (c_X7_fail hP hE (by omega)) ms_X7_fail mv_X7_fail lk_RX7_35 dX7_messages_24 hpt rfl rfl rfl (by simp [Value.category]) ⟨⟨(Nat.le_of_ble_eq_true rfl), (Nat.le_of_ble_eq_true rfl)⟩, by omega, by omega⟩ (fun v2 X2 hp2 hE2 => ?_)))
    obtain ⟨rfl, hP2, hF2⟩ := hp2
    refine j_iretv hF hR dX7_messages_27 (by omega) (by omega) ?_
    refine PV ?_ (hP2.mono (by omega)) hF2 (by omega) (by omega) (by omega)
    unfold sp_messages
    first | exact pif_t ⟨c4, c18⟩ | exact pif_f (fun h => c4 h.1) | exact pif_f (fun h => c18 h.2)
  ·
    refine j_aload_n hF dX7_messages_7 rfl (j_get hF hpt fl_RX7_27 dX7_messages_8 rfl (j_get hF h1 fl_RX7_43 dX7_messages_11 rfl (j_iload_n hF dX7_messages_14 rfl (j_callV hF (c_X0_hasEdge hGP (by omega) (by omega)) ms_X0_hasEdge mv_X0_hasEdge lk_RX7_80 dX7_messages_15 hGP.1 rfl rfl rfl (by simp [Value.category]) ⟨⟨(Nat.le_of_ble_eq_true rfl), (Nat.le_of_ble_eq_true rfl)⟩, by omega, by omega⟩ (fun v3 X3 hp3 hE3 => ?_)))))
    obtain ⟨rfl, he3⟩ := hp3; obtain rfl := he3.symm
    refine j_b_ne hF 28 dX7_messages_18 (by decide) (fun c18 => ?_) (fun c18 => ?_)
    ·
      refine j_aload_n hF dX7_messages_28 rfl (j_get hF hpt fl_RX7_27 dX7_messages_29 rfl (j_get hF h1 fl_RX7_120 dX7_messages_32 rfl (j_iload_n hF dX7_messages_35 rfl (j_iload_n hF dX7_messages_36 rfl (j_callV hF (c_X1_sizeOf hMP c4 (by omega)) ms_X1_sizeOf mv_X1_sizeOf lk_RX7_146 dX7_messages_37 hMP.1 rfl rfl rfl (by simp [Value.category]) ⟨⟨(Nat.le_of_ble_eq_true rfl), (Nat.le_of_ble_eq_true rfl)⟩, by omega, by omega⟩ (fun v4 X4 hp4 hE4 => ?_))))))
      obtain ⟨rfl, he4⟩ := hp4; obtain rfl := he4.symm
      rw [x1 (10 * w + e) (by omega) (by omega)]
      refine j_iretv hF hR dX7_messages_40 (by omega) (by omega) ?_
      refine PV ?_ (hP2.mono (by omega)) hF2 (by omega) (by omega) (by omega)
      unfold sp_messages
      first | exact pif_t ⟨c4, c18⟩ | exact pif_f (fun h => c4 h.1) | exact pif_f (fun h => c18 h.2)
    ·
      refine j_aload_n hF dX7_messages_21 rfl (j_bipush hF dX7_messages_22 (by decide) (j_callV hF (c_X7_fail hP hE (by omega)) ms_X7_fail mv_X7_fail lk_RX7_35 dX7_messages_24 hpt rfl rfl rfl (by simp [Value.category]) ⟨⟨(Nat.le_of_ble_eq_true rfl), (Nat.le_of_ble_eq_true rfl)⟩, by omega, by omega⟩ (fun v5 X5 hp5 hE5 => ?_)))
      obtain ⟨rfl, hP2, hF2⟩ := hp5
      refine j_iretv hF hR dX7_messages_27 (by omega) (by omega) ?_
      refine PV ?_ (hP2.mono (by omega)) hF2 (by omega) (by omega) (by omega)
      unfold sp_messages
      first | exact pif_t ⟨c4, c18⟩ | exact pif_f (fun h => c4 h.1) | exact pif_f (fun h => c18 h.2)

set_option maxRecDepth 100000 in
set_option maxHeartbeats 4000000 in
theorem c_X7_messageTime {X : Hp} {pt kap : Nat} {ct : Int} {r pf : Int → Int} {sv : Int} {er : Int → Int} (hP : PP X pt kap ct (r, pf, sv, er)) (hGV : GV r) (hE : EI er)  {w e i : Int} (hm : RM2 r) (h_w : -2147483648 ≤ w ∧ w ≤ 2147483647) (h_e : -2147483648 ≤ e ∧ e ≤ 2147483647) (h_i : -2147483648 ≤ i ∧ i ≤ 2147483647) : Cv yX7_messageTime cX7_messageTime 4 (some .int) 1 23 [.ref pt, vi w, vi e, vi i] X (393155 - kap) (6 * (393155 - kap)) (fun rv X' kk nn => rv = some (vi (sp_messageTime (r, pf, sv, er) w e i).1) ∧ PPQ X X' pt kap (ct + 1) (sp_messageTime (r, pf, sv, er) w e i).2 kk nn) := by
  refine Cv.of (by decide +kernel) [some (.ref pt), some (vi w), some (vi e), some (vi i)] rfl (Nat.le_of_ble_eq_true rfl) (fun φ hF hR => ?_)
  obtain ⟨ea, sa, y, st, B, mk, gn, kn, kr, hO, hea, hWR, hgn, hST, hkap⟩ := id hP
  dsimp only at hO hea hWR hST
  obtain ⟨g, ml, ws, va, qa, oe, dc, v_, q_, n_, m_, z_, f_, hS, hV, hQ, hk_⟩ := id hST
  obtain ⟨av, aq, ao, af, h1, ⟨ga, gb, gc, gd, nc, ec, jd, js, je, jk, hGP, hGE⟩, ⟨mz, mt, yz, yt, hMP, x1, x2⟩, ⟨wz, wt, uz, ut, hWP, x3⟩, h5, h6, h7, h8, h9, h10, h11⟩ := id hS
  obtain ⟨g1, g1'⟩ := id hGE.1
  subst g1
  subst g1'
  have hpt := hO.pt.1
  have hLB := hO.pt.2
  unfold LB at hLB
  have b0 := hGV.1.1
  have b1 := hGV.1.2.1
  have hP2 := hP
  have hF2 := FB.refl 0 5000 X
  refine j_iload_n hF dX7_messageTime_0 rfl (j_callS hF (c_X7_isWorker (by omega)) ms_X7_isWorker mt_X7_isWorker lk_RX7_111 dX7_messageTime_1 rfl rfl rfl (by simp [Value.category]) ⟨⟨(Nat.le_of_ble_eq_true rfl), (Nat.le_of_ble_eq_true rfl)⟩, by omega, by omega⟩ (fun v1 X1 hp1 hE1 => ?_))
  obtain ⟨rfl, he1⟩ := hp1; obtain rfl := he1.symm
  refine j_b_eq hF 25 dX7_messageTime_4 (by decide) (fun c4 => ?_) (fun c4 => ?_)
  ·
    refine j_aload_n hF dX7_messageTime_25 rfl (j_bipush hF dX7_messageTime_26 (by decide) (j_callV hF (c_X7_fail hP hE (by omega)) ms_X7_fail mv_X7_fail lk_RX7_35 dX7_messageTime_28 hpt rfl rfl rfl (by simp [Value.category]) ⟨⟨(Nat.le_of_ble_eq_true rfl), (Nat.le_of_ble_eq_true rfl)⟩, by omega, by omega⟩ (fun v2 X2 hp2 hE2 => ?_)))
    obtain ⟨rfl, hP2, hF2⟩ := hp2
    refine j_iretv hF hR dX7_messageTime_31 (by omega) (by omega) ?_
    refine PV ?_ (hP2.mono (by omega)) hF2 (by omega) (by omega) (by omega)
    unfold sp_messageTime
    first | exact pif_f (fun h => c4 h.1.1) | exact pif_f (fun h => c18 h.1.2) | exact pif_f (fun h => absurd h.2 (Int.not_le.mpr c22)) | (refine (pif_t ⟨⟨c4, c18⟩, c22⟩).trans ?_; rw [if_pos (show i < r (47 + (10 * w + e)) by omega)]) | (refine (pif_t ⟨⟨c4, c18⟩, c22⟩).trans ?_; rw [if_neg (show ¬ i < r (47 + (10 * w + e)) by omega)])
  ·
    refine j_aload_n hF dX7_messageTime_7 rfl (j_get hF hpt fl_RX7_27 dX7_messageTime_8 rfl (j_get hF h1 fl_RX7_43 dX7_messageTime_11 rfl (j_iload_n hF dX7_messageTime_14 rfl (j_callV hF (c_X0_hasEdge hGP (by omega) (by omega)) ms_X0_hasEdge mv_X0_hasEdge lk_RX7_80 dX7_messageTime_15 hGP.1 rfl rfl rfl (by simp [Value.category]) ⟨⟨(Nat.le_of_ble_eq_true rfl), (Nat.le_of_ble_eq_true rfl)⟩, by omega, by omega⟩ (fun v3 X3 hp3 hE3 => ?_)))))
    obtain ⟨rfl, he3⟩ := hp3; obtain rfl := he3.symm
    refine j_b_eq hF 25 dX7_messageTime_18 (by decide) (fun c18 => ?_) (fun c18 => ?_)
    ·
      refine j_aload_n hF dX7_messageTime_25 rfl (j_bipush hF dX7_messageTime_26 (by decide) (j_callV hF (c_X7_fail hP hE (by omega)) ms_X7_fail mv_X7_fail lk_RX7_35 dX7_messageTime_28 hpt rfl rfl rfl (by simp [Value.category]) ⟨⟨(Nat.le_of_ble_eq_true rfl), (Nat.le_of_ble_eq_true rfl)⟩, by omega, by omega⟩ (fun v4 X4 hp4 hE4 => ?_)))
      obtain ⟨rfl, hP2, hF2⟩ := hp4
      refine j_iretv hF hR dX7_messageTime_31 (by omega) (by omega) ?_
      refine PV ?_ (hP2.mono (by omega)) hF2 (by omega) (by omega) (by omega)
      unfold sp_messageTime
      first | exact pif_f (fun h => c4 h.1.1) | exact pif_f (fun h => c18 h.1.2) | exact pif_f (fun h => absurd h.2 (Int.not_le.mpr c22)) | (refine (pif_t ⟨⟨c4, c18⟩, c22⟩).trans ?_; rw [if_pos (show i < r (47 + (10 * w + e)) by omega)]) | (refine (pif_t ⟨⟨c4, c18⟩, c22⟩).trans ?_; rw [if_neg (show ¬ i < r (47 + (10 * w + e)) by omega)])
    ·
      refine j_iload_n hF dX7_messageTime_21 rfl (j_if_ge hF 32 dX7_messageTime_22 (by decide) (by omega) (fun c22 => ?_) (fun c22 => ?_))
      ·
        refine j_iload_n hF dX7_messageTime_32 rfl (j_aload_n hF dX7_messageTime_33 rfl (j_get hF hpt fl_RX7_27 dX7_messageTime_34 rfl (j_get hF h1 fl_RX7_120 dX7_messageTime_37 rfl (j_iload_n hF dX7_messageTime_40 rfl (j_iload_n hF dX7_messageTime_41 rfl ?_)))))
        refine j_callV hF (c_X1_sizeOf hMP c4 (by omega)) ms_X1_sizeOf mv_X1_sizeOf lk_RX7_146 dX7_messageTime_42 hMP.1 rfl rfl rfl (by simp [Value.category]) ⟨⟨(Nat.le_of_ble_eq_true rfl), (Nat.le_of_ble_eq_true rfl)⟩, by omega, by omega⟩ (fun v5 X5 hp5 hE5 => ?_)
        obtain ⟨rfl, he5⟩ := hp5; obtain rfl := he5.symm
        have m0 := hm (10 * w + e) (by omega) (by omega)
        rw [x1 (10 * w + e) (by omega) (by omega)]
        refine j_icmp_ge hF 64 dX7_messageTime_45 (by decide) (by omega) (fun c45 => ?_) (fun c45 => ?_)
        ·
          refine j_iconst hF dX7_messageTime_64 (j_iretv hF hR dX7_messageTime_65 (by omega) (by omega) ?_)
          refine PV ?_ (hP2.mono (by omega)) hF2 (by omega) (by omega) (by omega)
          unfold sp_messageTime
          first | exact pif_f (fun h => c4 h.1.1) | exact pif_f (fun h => c18 h.1.2) | exact pif_f (fun h => absurd h.2 (Int.not_le.mpr c22)) | (refine (pif_t ⟨⟨c4, c18⟩, c22⟩).trans ?_; rw [if_pos (show i < r (47 + (10 * w + e)) by omega)]) | (refine (pif_t ⟨⟨c4, c18⟩, c22⟩).trans ?_; rw [if_neg (show ¬ i < r (47 + (10 * w + e)) by omega)])
        ·
          refine j_aload_n hF dX7_messageTime_48 rfl (j_get hF hpt fl_RX7_27 dX7_messageTime_49 rfl (j_get hF h1 fl_RX7_120 dX7_messageTime_52 rfl (j_iload_n hF dX7_messageTime_55 rfl (j_iload_n hF dX7_messageTime_56 rfl (j_iload_n hF dX7_messageTime_57 rfl ?_)))))
          refine j_callV hF (c_X1_timeOf hMP c4 (by omega) (by omega)) ms_X1_timeOf mv_X1_timeOf lk_RX7_199 dX7_messageTime_58 hMP.1 rfl rfl rfl (by simp [Value.category]) ⟨⟨(Nat.le_of_ble_eq_true rfl), (Nat.le_of_ble_eq_true rfl)⟩, by omega, by omega⟩ (fun v6 X6 hp6 hE6 => ?_)
          obtain ⟨rfl, he6⟩ := hp6; obtain rfl := he6.symm
          rw [x2 (12 * (10 * w + e) + i) (by omega) (by omega), show 67 + (12 * (10 * w + e) + i) = 67 + 12 * (10 * w + e) + i by omega]
          refine j_goto hF 65 dX7_messageTime_61 (by decide) (j_iretv hF hR dX7_messageTime_65 (by omega) (by omega) ?_)
          refine PV ?_ (hP2.mono (by omega)) hF2 (by omega) (by omega) (by omega)
          unfold sp_messageTime
          first | exact pif_f (fun h => c4 h.1.1) | exact pif_f (fun h => c18 h.1.2) | exact pif_f (fun h => absurd h.2 (Int.not_le.mpr c22)) | (refine (pif_t ⟨⟨c4, c18⟩, c22⟩).trans ?_; rw [if_pos (show i < r (47 + (10 * w + e)) by omega)]) | (refine (pif_t ⟨⟨c4, c18⟩, c22⟩).trans ?_; rw [if_neg (show ¬ i < r (47 + (10 * w + e)) by omega)])
      ·
        refine j_aload_n hF dX7_messageTime_25 rfl (j_bipush hF dX7_messageTime_26 (by decide) (j_callV hF (c_X7_fail hP hE (by omega)) ms_X7_fail mv_X7_fail lk_RX7_35 dX7_messageTime_28 hpt rfl rfl rfl (by simp [Value.category]) ⟨⟨(Nat.le_of_ble_eq_true rfl), (Nat.le_of_ble_eq_true rfl)⟩, by omega, by omega⟩ (fun v7 X7 hp7 hE7 => ?_)))
        obtain ⟨rfl, hP2, hF2⟩ := hp7
        refine j_iretv hF hR dX7_messageTime_31 (by omega) (by omega) ?_
        refine PV ?_ (hP2.mono (by omega)) hF2 (by omega) (by omega) (by omega)
        unfold sp_messageTime
        first | exact pif_f (fun h => c4 h.1.1) | exact pif_f (fun h => c18 h.1.2) | exact pif_f (fun h => absurd h.2 (Int.not_le.mpr c22)) | (refine (pif_t ⟨⟨c4, c18⟩, c22⟩).trans ?_; rw [if_pos (show i < r (47 + (10 * w + e)) by omega)]) | (refine (pif_t ⟨⟨c4, c18⟩, c22⟩).trans ?_; rw [if_neg (show ¬ i < r (47 + (10 * w + e)) by omega)])

set_option maxRecDepth 100000 in
set_option maxHeartbeats 4000000 in
theorem c_X7_requests {X : Hp} {pt kap : Nat} {ct : Int} {r pf : Int → Int} {sv : Int} {er : Int → Int} (hP : PP X pt kap ct (r, pf, sv, er)) (hGV : GV r) (hE : EI er)  {w n : Int} (hA : AS r) (hT : AT r) (hAP : AP_ r) (h_w : -2147483648 ≤ w ∧ w ≤ 2147483647) (h_n : -2147483648 ≤ n ∧ n ≤ 2147483647) : Cv yX7_requests cX7_requests 3 (some .int) 2 46 [.ref pt, vi w, vi n] X (393155 - kap) (6 * (393155 - kap)) (fun rv X' kk nn => rv = some (vi (sp_requests (r, pf, sv, er) w n).1) ∧ PPQ X X' pt kap (ct + 1) (sp_requests (r, pf, sv, er) w n).2 kk nn) := by
  refine Cv.of (by decide +kernel) [some (.ref pt), some (vi w), some (vi n)] rfl (Nat.le_of_ble_eq_true rfl) (fun φ hF hR => ?_)
  obtain ⟨ea, sa, y, st, B, mk, gn, kn, kr, hO, hea, hWR, hgn, hST, hkap⟩ := id hP
  dsimp only at hO hea hWR hST
  obtain ⟨g, ml, ws, va, qa, oe, dc, v_, q_, n_, m_, z_, f_, hS, hV, hQ, hk_⟩ := id hST
  obtain ⟨av, aq, ao, af, h1, ⟨ga, gb, gc, gd, nc, ec, jd, js, je, jk, hGP, hGE⟩, ⟨mz, mt, yz, yt, hMP, x1, x2⟩, ⟨wz, wt, uz, ut, hWP, x3⟩, h5, h6, h7, h8, h9, h10, h11⟩ := id hS
  obtain ⟨g1, g1'⟩ := id hGE.1
  subst g1
  subst g1'
  have hpt := hO.pt.1
  have hLB := hO.pt.2
  unfold LB at hLB
  have b0 := hGV.1.1
  have b1 := hGV.1.2.1
  have hP2 := hP
  have hF2 := FB.refl 0 5000 X
  refine j_iload_n hF dX7_requests_0 rfl (j_callS hF (c_X7_isWorker (by omega)) ms_X7_isWorker mt_X7_isWorker lk_RX7_111 dX7_requests_1 rfl rfl rfl (by simp [Value.category]) ⟨⟨(Nat.le_of_ble_eq_true rfl), (Nat.le_of_ble_eq_true rfl)⟩, by omega, by omega⟩ (fun v1 X1 hp1 hE1 => ?_))
  obtain ⟨rfl, he1⟩ := hp1; obtain rfl := he1.symm
  refine j_b_eq hF 21 dX7_requests_4 (by decide) (fun c4 => ?_) (fun c4 => ?_)
  ·
    refine j_aload_n hF dX7_requests_21 rfl (j_bipush hF dX7_requests_22 (by decide) (j_callV hF (c_X7_fail hP hE (by omega)) ms_X7_fail mv_X7_fail lk_RX7_35 dX7_requests_24 hpt rfl rfl rfl (by simp [Value.category]) ⟨⟨(Nat.le_of_ble_eq_true rfl), (Nat.le_of_ble_eq_true rfl)⟩, by omega, by omega⟩ (fun v2 X2 hp2 hE2 => ?_)))
    obtain ⟨rfl, hP2, hF2⟩ := hp2
    refine j_iretv hF hR dX7_requests_27 (by omega) (by omega) ?_
    refine PV ?_ (hP2.mono (by omega)) hF2 (by omega) (by omega) (by omega)
    unfold sp_requests
    first | exact pif_t ⟨c4, c18⟩ | exact pif_f (fun h => c4 h.1) | exact pif_f (fun h => c18 h.2)
  ·
    refine j_aload_n hF dX7_requests_7 rfl (j_get hF hpt fl_RX7_27 dX7_requests_8 rfl (j_get hF h1 fl_RX7_43 dX7_requests_11 rfl (j_iload_n hF dX7_requests_14 rfl (j_callV hF (c_X0_hasNode hGP (by omega) (by omega)) ms_X0_hasNode mv_X0_hasNode lk_RX7_63 dX7_requests_15 hGP.1 rfl rfl rfl (by simp [Value.category]) ⟨⟨(Nat.le_of_ble_eq_true rfl), (Nat.le_of_ble_eq_true rfl)⟩, by omega, by omega⟩ (fun v3 X3 hp3 hE3 => ?_)))))
    obtain ⟨rfl, he3⟩ := hp3; obtain rfl := he3.symm
    refine j_b_ne hF 28 dX7_requests_18 (by decide) (fun c18 => ?_) (fun c18 => ?_)
    ·
      refine j_aload_n hF dX7_requests_28 rfl (j_get hF hpt fl_RX7_27 dX7_requests_29 rfl (j_get hF h1 fl_RX7_155 dX7_requests_32 rfl (j_iload_n hF dX7_requests_35 rfl (j_iload_n hF dX7_requests_36 rfl ?_))))
      obtain ⟨u1, u2⟩ := x3 w c4.1 c4.2
      have a1 := hA w c4.1 (by omega)
      refine j_callV hF (c_X6_countAt hWP c4 (by rw [u1]; exact a1) (fun i i1 i2 => u2.rg hA hT hAP c4 i1 (by rw [← u1]; exact i2)) (by omega)) ms_X6_countAt mv_X6_countAt lk_RX7_203 dX7_requests_37 hWP.1 rfl rfl rfl (by simp [Value.category]) ⟨⟨(Nat.le_of_ble_eq_true rfl), (Nat.le_of_ble_eq_true rfl)⟩, by omega, by omega⟩ (fun v4 X4 hp4 hE4 => ?_)
      obtain ⟨rfl, he4⟩ := hp4; obtain rfl := he4.symm
      rw [u1, u2.asked hA hT hAP c4]
      refine j_iretv hF hR dX7_requests_40 (by omega) (by omega) ?_
      refine PV ?_ (hP2.mono (by omega)) hF2 (by omega) (by omega) (by omega)
      unfold sp_requests
      first | exact pif_t ⟨c4, c18⟩ | exact pif_f (fun h => c4 h.1) | exact pif_f (fun h => c18 h.2)
    ·
      refine j_aload_n hF dX7_requests_21 rfl (j_bipush hF dX7_requests_22 (by decide) (j_callV hF (c_X7_fail hP hE (by omega)) ms_X7_fail mv_X7_fail lk_RX7_35 dX7_requests_24 hpt rfl rfl rfl (by simp [Value.category]) ⟨⟨(Nat.le_of_ble_eq_true rfl), (Nat.le_of_ble_eq_true rfl)⟩, by omega, by omega⟩ (fun v5 X5 hp5 hE5 => ?_)))
      obtain ⟨rfl, hP2, hF2⟩ := hp5
      refine j_iretv hF hR dX7_requests_27 (by omega) (by omega) ?_
      refine PV ?_ (hP2.mono (by omega)) hF2 (by omega) (by omega) (by omega)
      unfold sp_requests
      first | exact pif_t ⟨c4, c18⟩ | exact pif_f (fun h => c4 h.1) | exact pif_f (fun h => c18 h.2)

set_option maxRecDepth 100000 in
set_option maxHeartbeats 4000000 in
theorem c_X7_count {X : Hp} {pt kap : Nat} {ct : Int} {r pf : Int → Int} {sv : Int} {er : Int → Int} (hP : PP X pt kap ct (r, pf, sv, er)) (hGV : GV r) (hE : EI er)  {w p t : Int} (h_w : -2147483648 ≤ w ∧ w ≤ 2147483647) (h_p : -2147483648 ≤ p ∧ p ≤ 2147483647) (h_t : -2147483648 ≤ t ∧ t ≤ 2147483647) : Cv yX7_count cX7_count 4 (some .int) 3 66 [.ref pt, vi w, vi p, vi t] X (393155 - kap) (6 * (393155 - kap)) (fun rv X' kk nn => rv = some (vi (sp_count (r, pf, sv, er) w p t).1) ∧ PPQ X X' pt kap (ct + 1) (sp_count (r, pf, sv, er) w p t).2 kk nn) := by
  refine Cv.of (by decide +kernel) [some (.ref pt), some (vi w), some (vi p), some (vi t)] rfl (Nat.le_of_ble_eq_true rfl) (fun φ hF hR => ?_)
  obtain ⟨ea, sa, y, st, B, mk, gn, kn, kr, hO, hea, hWR, hgn, hST, hkap⟩ := id hP
  dsimp only at hO hea hWR hST
  obtain ⟨g, ml, ws, va, qa, oe, dc, v_, q_, n_, m_, z_, f_, hS, hV, hQ, hk_⟩ := id hST
  obtain ⟨av, aq, ao, af, h1, ⟨ga, gb, gc, gd, nc, ec, jd, js, je, jk, hGP, hGE⟩, ⟨mz, mt, yz, yt, hMP, x1, x2⟩, ⟨wz, wt, uz, ut, hWP, x3⟩, h5, h6, h7, h8, h9, h10, h11⟩ := id hS
  obtain ⟨g1, g1'⟩ := id hGE.1
  subst g1
  subst g1'
  have hpt := hO.pt.1
  have hLB := hO.pt.2
  unfold LB at hLB
  have b0 := hGV.1.1
  have b1 := hGV.1.2.1
  have hP2 := hP
  have hF2 := FB.refl 0 5000 X
  refine j_iload_n hF dX7_count_0 rfl (j_callS hF (c_X7_isWorker (by omega)) ms_X7_isWorker mt_X7_isWorker lk_RX7_111 dX7_count_1 rfl rfl rfl (by simp [Value.category]) ⟨⟨(Nat.le_of_ble_eq_true rfl), (Nat.le_of_ble_eq_true rfl)⟩, by omega, by omega⟩ (fun v1 X1 hp1 hE1 => ?_))
  obtain ⟨rfl, he1⟩ := hp1; obtain rfl := he1.symm
  refine j_b_eq hF 22 dX7_count_4 (by decide) (fun c4 => ?_) (fun c4 => ?_)
  ·
    refine j_aload_n hF dX7_count_22 rfl (j_bipush hF dX7_count_23 (by decide) (j_callV hF (c_X7_fail hP hE (by omega)) ms_X7_fail mv_X7_fail lk_RX7_35 dX7_count_25 hpt rfl rfl rfl (by simp [Value.category]) ⟨⟨(Nat.le_of_ble_eq_true rfl), (Nat.le_of_ble_eq_true rfl)⟩, by omega, by omega⟩ (fun v2 X2 hp2 hE2 => ?_)))
    obtain ⟨rfl, hP2, hF2⟩ := hp2
    refine j_iretv hF hR dX7_count_28 (by omega) (by omega) ?_
    refine PV ?_ (hP2.mono (by omega)) hF2 (by omega) (by omega) (by omega)
    unfold sp_count
    first | exact pif_t ⟨⟨c4, c19.1⟩, c19.2⟩ | exact pif_f (fun h => c4 h.1.1) | exact pif_f (fun h => c19 ⟨h.1.2, h.2⟩)
  ·
    refine j_aload_n hF dX7_count_7 rfl (j_get hF hpt fl_RX7_27 dX7_count_8 rfl (j_get hF h1 fl_RX7_43 dX7_count_11 rfl (j_iload_n hF dX7_count_14 rfl (j_iload_n hF dX7_count_15 rfl (j_callV hF (c_X0_hasTime hGP (by omega) (by omega) (by omega) (by omega) (hGE.rgd hGV.1) (hGE.rgs hGV.1)) ms_X0_hasTime mv_X0_hasTime lk_RX7_86 dX7_count_16 hGP.1 rfl rfl rfl (by simp [Value.category]) ⟨⟨(Nat.le_of_ble_eq_true rfl), (Nat.le_of_ble_eq_true rfl)⟩, by omega, by omega⟩ (fun v3 X3 hp3 hE3 => ?_))))))
    obtain ⟨rfl, he3⟩ := hp3; obtain rfl := he3.symm
    rw [bz_iff (ct_iff hGV.1 hGE)]
    refine j_b_ne hF 29 dX7_count_19 (by decide) (fun c19 => ?_) (fun c19 => ?_)
    ·
      have p16 := m_place_rg hGV.1 c19.1
      have t9 := c19.2.1
      obtain ⟨vs, vc_, vk, fs_, fv_, fk_, hVP, hVI, hv16, hv32⟩ := hV w c4.1 c4.2
      refine j_sipush hF dX7_count_29 (by decide) (j_aload_n hF dX7_count_32 rfl (j_get hF hpt fl_RX7_27 dX7_count_33 rfl (j_get hF h1 fl_RX7_189 dX7_count_36 rfl (j_iload_n hF dX7_count_39 rfl (j_aald hF (by decide) h5 dX7_count_40 (by omega) (h9 w c4.1 c4.2).1 ?_)))))
      refine j_iload_n hF dX7_count_41 rfl (j_iload_n hF dX7_count_42 rfl (j_callS hF (c_X7_stampOf) ms_X7_stampOf mt_X7_stampOf lk_RX7_94 dX7_count_43 rfl rfl rfl (by simp [Value.category]) ⟨⟨(Nat.le_of_ble_eq_true rfl), (Nat.le_of_ble_eq_true rfl)⟩, by omega, by omega⟩ (fun v4 X4 hp4 hE4 => ?_)))
      obtain ⟨rfl, he4⟩ := hp4; obtain rfl := he4.symm
      refine j_callV hF (c_X4_countOf hVP hVI (by omega) (by omega)) ms_X4_countOf mv_X4_countOf lk_RX7_206 dX7_count_46 hVP.1 rfl rfl rfl (by simp [Value.category]) ⟨⟨(Nat.le_of_ble_eq_true rfl), (Nat.le_of_ble_eq_true rfl)⟩, by omega, by omega⟩ (fun v5 X5 hp5 hE5 => ?_)
      obtain ⟨rfl, he5⟩ := hp5; obtain rfl := he5.symm
      rw [show 6359 + 16000 * w + (1000 * p + t) = 6359 + 1000 * (16 * w + p) + t by omega]
      refine j_iadd hF dX7_count_49 (j_iretv hF hR dX7_count_50 (by omega) (by omega) ?_)
      refine PV ?_ (hP2.mono (by omega)) hF2 (by omega) (by omega) (by omega)
      unfold sp_count
      first | exact pif_t ⟨⟨c4, c19.1⟩, c19.2⟩ | exact pif_f (fun h => c4 h.1.1) | exact pif_f (fun h => c19 ⟨h.1.2, h.2⟩)
    ·
      refine j_aload_n hF dX7_count_22 rfl (j_bipush hF dX7_count_23 (by decide) (j_callV hF (c_X7_fail hP hE (by omega)) ms_X7_fail mv_X7_fail lk_RX7_35 dX7_count_25 hpt rfl rfl rfl (by simp [Value.category]) ⟨⟨(Nat.le_of_ble_eq_true rfl), (Nat.le_of_ble_eq_true rfl)⟩, by omega, by omega⟩ (fun v6 X6 hp6 hE6 => ?_)))
      obtain ⟨rfl, hP2, hF2⟩ := hp6
      refine j_iretv hF hR dX7_count_28 (by omega) (by omega) ?_
      refine PV ?_ (hP2.mono (by omega)) hF2 (by omega) (by omega) (by omega)
      unfold sp_count
      first | exact pif_t ⟨⟨c4, c19.1⟩, c19.2⟩ | exact pif_f (fun h => c4 h.1.1) | exact pif_f (fun h => c19 ⟨h.1.2, h.2⟩)

set_option maxRecDepth 100000 in
set_option maxHeartbeats 4000000 in
theorem c_X7_active {X : Hp} {pt kap : Nat} {ct : Int} {r pf : Int → Int} {sv : Int} {er : Int → Int} (hP : PP X pt kap ct (r, pf, sv, er)) (hGV : GV r) (hE : EI er)  {w : Int} (h_w : -2147483648 ≤ w ∧ w ≤ 2147483647) : Cv yX7_active cX7_active 2 (some .int) 1 22 [.ref pt, vi w] X (393155 - kap) (6 * (393155 - kap)) (fun rv X' kk nn => rv = some (vi (sp_active (r, pf, sv, er) w).1) ∧ PPQ X X' pt kap (ct + 1) (sp_active (r, pf, sv, er) w).2 kk nn) := by
  refine Cv.of (by decide +kernel) [some (.ref pt), some (vi w)] rfl (Nat.le_of_ble_eq_true rfl) (fun φ hF hR => ?_)
  obtain ⟨ea, sa, y, st, B, mk, gn, kn, kr, hO, hea, hWR, hgn, hST, hkap⟩ := id hP
  dsimp only at hO hea hWR hST
  obtain ⟨g, ml, ws, va, qa, oe, dc, v_, q_, n_, m_, z_, f_, hS, hV, hQ, hk_⟩ := id hST
  obtain ⟨av, aq, ao, af, h1, ⟨ga, gb, gc, gd, nc, ec, jd, js, je, jk, hGP, hGE⟩, ⟨mz, mt, yz, yt, hMP, x1, x2⟩, ⟨wz, wt, uz, ut, hWP, x3⟩, h5, h6, h7, h8, h9, h10, h11⟩ := id hS
  obtain ⟨g1, g1'⟩ := id hGE.1
  subst g1
  subst g1'
  have hpt := hO.pt.1
  have hLB := hO.pt.2
  unfold LB at hLB
  have b0 := hGV.1.1
  have b1 := hGV.1.2.1
  have hP2 := hP
  have hF2 := FB.refl 0 5000 X
  refine j_iload_n hF dX7_active_0 rfl (j_callS hF (c_X7_isWorker (by omega)) ms_X7_isWorker mt_X7_isWorker lk_RX7_111 dX7_active_1 rfl rfl rfl (by simp [Value.category]) ⟨⟨(Nat.le_of_ble_eq_true rfl), (Nat.le_of_ble_eq_true rfl)⟩, by omega, by omega⟩ (fun v1 X1 hp1 hE1 => ?_))
  obtain ⟨rfl, he1⟩ := hp1; obtain rfl := he1.symm
  refine j_b_ne hF 14 dX7_active_4 (by decide) (fun c4 => ?_) (fun c4 => ?_)
  ·
    obtain ⟨vs, vc_, vk, fs_, fv_, fk_, hVP, hVI, hv16, hv32⟩ := hV w c4.1 c4.2
    refine j_aload_n hF dX7_active_14 rfl (j_get hF hpt fl_RX7_27 dX7_active_15 rfl (j_get hF h1 fl_RX7_189 dX7_active_18 rfl (j_iload_n hF dX7_active_21 rfl (j_aald hF (by decide) h5 dX7_active_22 (by omega) (h9 w c4.1 c4.2).1 (j_callV hF (c_X4_countActive hVP hVI (by omega)) ms_X4_countActive mv_X4_countActive lk_RX7_211 dX7_active_23 hVP.1 rfl rfl rfl (by simp [Value.category]) ⟨⟨(Nat.le_of_ble_eq_true rfl), (Nat.le_of_ble_eq_true rfl)⟩, by omega, by omega⟩ (fun v2 X2 hp2 hE2 => ?_))))))
    obtain ⟨rfl, he2⟩ := hp2; obtain rfl := he2.symm
    rw [show (fun x => if 0 < (fun x => r (6359 + 16000 * w + x)) x then (1 : Int) else 0) = aF r w from rfl]
    refine j_iretv hF hR dX7_active_26 (by omega) (by omega) ?_
    refine PV ?_ (hP2.mono (by omega)) hF2 (by omega) (by omega) (by omega)
    unfold sp_active
    first | exact pif_t c4 | exact pif_f c4
  ·
    refine j_aload_n hF dX7_active_7 rfl (j_bipush hF dX7_active_8 (by decide) (j_callV hF (c_X7_fail hP hE (by omega)) ms_X7_fail mv_X7_fail lk_RX7_35 dX7_active_10 hpt rfl rfl rfl (by simp [Value.category]) ⟨⟨(Nat.le_of_ble_eq_true rfl), (Nat.le_of_ble_eq_true rfl)⟩, by omega, by omega⟩ (fun v3 X3 hp3 hE3 => ?_)))
    obtain ⟨rfl, hP2, hF2⟩ := hp3
    refine j_iretv hF hR dX7_active_13 (by omega) (by omega) ?_
    refine PV ?_ (hP2.mono (by omega)) hF2 (by omega) (by omega) (by omega)
    unfold sp_active
    first | exact pif_t c4 | exact pif_f c4

set_option maxRecDepth 100000 in
set_option maxHeartbeats 4000000 in
theorem c_X7_delivered {X : Hp} {pt kap : Nat} {ct : Int} {r pf : Int → Int} {sv : Int} {er : Int → Int} (hP : PP X pt kap ct (r, pf, sv, er)) (hGV : GV r) (hE : EI er)   : Cv yX7_delivered cX7_delivered 1 (some .int) 0 0 [.ref pt] X (393155 - kap) (6 * (393155 - kap)) (fun rv X' kk nn => rv = some (vi (sp_delivered (r, pf, sv, er) ).1) ∧ PPQ X X' pt kap (ct + 1) (sp_delivered (r, pf, sv, er) ).2 kk nn) := by
  refine Cv.of (by decide +kernel) [some (.ref pt)] rfl (Nat.le_of_ble_eq_true rfl) (fun φ hF hR => ?_)
  obtain ⟨ea, sa, y, st, B, mk, gn, kn, kr, hO, hea, hWR, hgn, hST, hkap⟩ := id hP
  dsimp only at hO hea hWR hST
  obtain ⟨g, ml, ws, va, qa, oe, dc, v_, q_, n_, m_, z_, f_, hS, hV, hQ, hk_⟩ := id hST
  obtain ⟨av, aq, ao, af, h1, ⟨ga, gb, gc, gd, nc, ec, jd, js, je, jk, hGP, hGE⟩, ⟨mz, mt, yz, yt, hMP, x1, x2⟩, ⟨wz, wt, uz, ut, hWP, x3⟩, h5, h6, h7, h8, h9, h10, h11⟩ := id hS
  obtain ⟨g1, g1'⟩ := id hGE.1
  subst g1
  subst g1'
  have hpt := hO.pt.1
  have hLB := hO.pt.2
  unfold LB at hLB
  have b0 := hGV.1.1
  have b1 := hGV.1.2.1
  have hP2 := hP
  have hF2 := FB.refl 0 5000 X
  refine j_aload_n hF dX7_delivered_0 rfl (j_get hF hpt fl_RX7_27 dX7_delivered_1 rfl (j_get hF h1 fl_RX7_226 dX7_delivered_4 rfl (j_iretv hF hR dX7_delivered_7 (by omega) (by omega) ?_)))
  exact PV (Z := sp_delivered (r, pf, sv, er)) rfl (hP2.mono (by omega)) hF2 (by omega) (by omega) (by omega)

set_option maxRecDepth 100000 in
set_option maxHeartbeats 4000000 in
theorem c_X7_violations {X : Hp} {pt kap : Nat} {ct : Int} {r pf : Int → Int} {sv : Int} {er : Int → Int} (hP : PP X pt kap ct (r, pf, sv, er)) (hGV : GV r) (hE : EI er)   : Cv yX7_violations cX7_violations 1 (some .int) 0 0 [.ref pt] X (393155 - kap) (6 * (393155 - kap)) (fun rv X' kk nn => rv = some (vi (sp_violations (r, pf, sv, er) ).1) ∧ PPQ X X' pt kap (ct + 1) (sp_violations (r, pf, sv, er) ).2 kk nn) := by
  refine Cv.of (by decide +kernel) [some (.ref pt)] rfl (Nat.le_of_ble_eq_true rfl) (fun φ hF hR => ?_)
  obtain ⟨ea, sa, y, st, B, mk, gn, kn, kr, hO, hea, hWR, hgn, hST, hkap⟩ := id hP
  dsimp only at hO hea hWR hST
  obtain ⟨g, ml, ws, va, qa, oe, dc, v_, q_, n_, m_, z_, f_, hS, hV, hQ, hk_⟩ := id hST
  obtain ⟨av, aq, ao, af, h1, ⟨ga, gb, gc, gd, nc, ec, jd, js, je, jk, hGP, hGE⟩, ⟨mz, mt, yz, yt, hMP, x1, x2⟩, ⟨wz, wt, uz, ut, hWP, x3⟩, h5, h6, h7, h8, h9, h10, h11⟩ := id hS
  obtain ⟨g1, g1'⟩ := id hGE.1
  subst g1
  subst g1'
  have hpt := hO.pt.1
  have hLB := hO.pt.2
  unfold LB at hLB
  have b0 := hGV.1.1
  have b1 := hGV.1.2.1
  have hP2 := hP
  have hF2 := FB.refl 0 5000 X
  refine j_aload_n hF dX7_violations_0 rfl (j_get hF hpt fl_RX7_27 dX7_violations_1 rfl (j_get hF h1 fl_RX7_229 dX7_violations_4 rfl (j_iretv hF hR dX7_violations_7 (by omega) (by omega) ?_)))
  exact PV (Z := sp_violations (r, pf, sv, er)) rfl (hP2.mono (by omega)) hF2 (by omega) (by omega) (by omega)

