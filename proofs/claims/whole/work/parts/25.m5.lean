theorem j_unset {φ : Fi} {X : Hp} {kc ks pc : Nat} {lo : List (Option Value)} {st : List Value} (i : Nat) (kk : Jd φ X kc ks pc (lo.set i none) st) : Jd φ X kc ks pc lo st := by
  obtain ⟨⟨p, l, e, R, s⟩, ⟨m, args, below, meth, c⟩, D, cy, A, Q, X0⟩ := φ
  intro H locs ls a b d f
  refine kk H locs ls a b d ⟨by rw [List.length_set]; exact f.1, f.2.1, fun q hq => ?_⟩
  obtain ⟨j, w⟩ := q
  obtain ⟨k, e, hk2⟩ := (ja_ll_mem _ _ _ _).mp hq
  have e : j = k := by omega
  subst e
  by_cases hij : i = j
  · subst hij
    by_cases hl : i < lo.length
    · rw [List.getElem?_set_self hl] at hk2; simp at hk2
    · rw [List.getElem?_eq_none (by rw [List.length_set]; omega)] at hk2; cases hk2
  · rw [List.getElem?_set_ne hij] at hk2
    exact f.2.2 _ ((ja_ll_mem _ _ _ _).mpr ⟨j, by omega, hk2⟩)
/-! cycles: which edges a cycle of least depth lt may take; ways along them -/
def EOK (r : Int → Int) (lt e : Int) : Prop := lt ≤ r (5 + r (17 + e)) ∧ lt ≤ r (5 + r (27 + e)) ∧ (r (37 + e) = 0 ∨ lt < r (5 + r (17 + e)))
def Pth (r : Int → Int) (lt a b : Int) : Prop := ∀ S : Int → Prop, S a → (∀ e, 0 ≤ e → e < r 1 → S (r (17 + e)) → EOK r lt e → S (r (27 + e))) → S b
theorem Pth.refl (r : Int → Int) (lt a : Int) : Pth r lt a a := fun _ h _ => h
theorem Pth.step {r : Int → Int} {lt a e : Int} (h : Pth r lt a (r (17 + e))) (h1 : 0 ≤ e) (h2 : e < r 1) (ho : EOK r lt e) : Pth r lt a (r (27 + e)) := fun S h0 hs => hs e h1 h2 (h S h0 hs) ho
theorem Pth.trans {r : Int → Int} {lt a b c : Int} (h : Pth r lt a b) (g : Pth r lt b c) : Pth r lt a c := fun S h0 hs => g S (h S h0 hs) hs
def PL (r : Int → Int) (lt a n : Int) : Prop := ∃ m, (0 ≤ m ∧ m < 6) ∧ Pth r lt a m ∧ r (5 + m) = lt ∧ Pth r lt m n
def RInv (r : Int → Int) (to lt : Int) (sn lw : Int → Int) : Prop := (∀ n, 0 ≤ n → n < 6 → (sn n = 0 ∨ sn n = 1) ∧ (lw n = 0 ∨ lw n = 1) ∧ (sn n = 1 → Pth r lt to n) ∧ (lw n = 1 → sn n = 1 ∧ PL r lt to n) ∧ (sn n = 1 → r (5 + n) = lt → lw n = 1)) ∧ sn to = 1
def RCl (r : Int → Int) (lt : Int) (sn lw : Int → Int) (k : Int) : Prop := ∀ e, 0 ≤ e → e < k → EOK r lt e → sn (r (17 + e)) = 1 → sn (r (27 + e)) = 1 ∧ ((lw (r (17 + e)) = 1 ∨ r (5 + r (27 + e)) = lt) → lw (r (27 + e)) = 1)
def s6 (f : Int → Int) : Int := f 0 + f 1 + f 2 + f 3 + f 4 + f 5
theorem s6_fu {f : Int → Int} {b v : Int} (h1 : 0 ≤ b) (h2 : b < 6) : s6 (fu f b v) = s6 f - f b + v := by
  rcases (show b = 0 ∨ b = 1 ∨ b = 2 ∨ b = 3 ∨ b = 4 ∨ b = 5 by omega) with rfl | rfl | rfl | rfl | rfl | rfl <;> simp [s6, fu] <;> omega
theorem RInv.tot {r : Int → Int} {to lt : Int} {sn lw : Int → Int} (h : RInv r to lt sn lw) : s6 sn + s6 lw ≤ 12 := by
  have a0 := h.1 0 (by omega) (by omega)
  have a1 := h.1 1 (by omega) (by omega)
  have a2 := h.1 2 (by omega) (by omega)
  have a3 := h.1 3 (by omega) (by omega)
  have a4 := h.1 4 (by omega) (by omega)
  have a5 := h.1 5 (by omega) (by omega)
  have b0 := And.intro a0.1 a0.2.1
  have b1 := And.intro a1.1 a1.2.1
  have b2 := And.intro a2.1 a2.2.1
  have b3 := And.intro a3.1 a3.2.1
  have b4 := And.intro a4.1 a4.2.1
  have b5 := And.intro a5.1 a5.2.1
  clear a0 a1 a2 a3 a4 a5
  unfold s6
  omega
theorem RInv.step {r : Int → Int} {to lt e : Int} {sn lw : Int → Int} (hG : GI r) (h : RInv r to lt sn lw) (h1 : 0 ≤ e) (h2 : e < r 1) (ho : EOK r lt e) (ha : sn (r (17 + e)) = 1) (hc : sn (r (27 + e)) = 0 ∨ lw (r (27 + e)) < bz (lw (r (17 + e)) = 1 ∨ r (5 + r (27 + e)) = lt)) {z : Int} (hz : z = if lw (r (27 + e)) = 1 ∨ bz (lw (r (17 + e)) = 1 ∨ r (5 + r (27 + e)) = lt) = 1 then 1 else 0) :
    RInv r to lt (fu sn (r (27 + e)) 1) (fu lw (r (27 + e)) z) ∧ s6 sn + s6 lw < s6 (fu sn (r (27 + e)) 1) + s6 (fu lw (r (27 + e)) z) := by
  have g1 := hG.2.1
  obtain ⟨⟨q1, q2⟩, ⟨q3, q4⟩, -⟩ := hG.ed e h1 (by omega)
  obtain ⟨a1, a2, a3, a4, a5⟩ := h.1 _ q1 q2
  obtain ⟨b1, b2, b3, b4, b5⟩ := h.1 _ q3 q4
  have pb : Pth r lt to (r (27 + e)) := (a3 ha).step h1 h2 ho
  have z01 : z = 0 ∨ z = 1 := by rw [hz]; split <;> simp
  have zl : z = 1 → PL r lt to (r (27 + e)) := by
    intro hz1
    rw [hz] at hz1
    split at hz1
    · rename_i hq
      rcases hq with hq | hq
      · exact (b4 hq).2
      · rcases bz_1 hq with hq | hq
        · obtain ⟨-, m, m0, m1, m2, m3⟩ := a4 hq
          exact ⟨m, m0, m1, m2, m3.step h1 h2 ho⟩
        · exact ⟨r (27 + e), ⟨q3, q4⟩, pb, hq, Pth.refl _ _ _⟩
    · omega
  refine ⟨⟨fun n n1 n2 => ?_, ?_⟩, ?_⟩
  · by_cases hn : n = r (27 + e)
    · subst hn
      rw [fu_s, fu_s]
      refine ⟨Or.inr rfl, z01, fun _ => pb, fun hz1 => ⟨rfl, zl hz1⟩, fun _ hd => ?_⟩
      rw [hz, if_pos (Or.inr (bz_t (Or.inr hd)))]
    · rw [fu_n hn, fu_n hn]; exact h.1 n n1 n2
  · by_cases hn : to = r (27 + e)
    · rw [hn, fu_s]
    · rw [fu_n hn]; exact h.2
  · rw [s6_fu q3 q4, s6_fu q3 q4]
    have t1 := bz_01 (lw (r (17 + e)) = 1 ∨ r (5 + r (27 + e)) = lt)
    split at hz <;> omega
theorem RInv.fin {r : Int → Int} {fr to lt : Int} {sn lw : Int → Int} (hG : GI r) (h : RInv r to lt sn lw) (hc : RCl r lt sn lw (r 1)) (h1 : 0 ≤ fr) (h2 : fr < 6) : (sn fr = 1 ∧ lw fr = 1) ↔ PL r lt to fr := by
  constructor
  · intro q; exact ((h.1 fr h1 h2).2.2.2.1 q.2).2
  · rintro ⟨m, m0, m1, m2, m3⟩
    have sm : sn m = 1 := m1 (fun n => sn n = 1) h.2 (fun e e1 e2 es eo => (hc e e1 e2 eo es).1)
    have lm : lw m = 1 := (h.1 m m0.1 m0.2).2.2.2.2 sm m2
    have := m3 (fun n => lw n = 1 ∧ sn n = 1) ⟨lm, sm⟩ (fun e e1 e2 es eo => ⟨(hc e e1 e2 eo es.2).2 (Or.inl es.1), (hc e e1 e2 eo es.2).1⟩)
    exact ⟨this.2, this.1⟩
theorem RInv.rg {r : Int → Int} {to lt n : Int} {sn lw : Int → Int} (h : RInv r to lt sn lw) (h1 : 0 ≤ n) (h2 : n < 6) : (0 ≤ sn n ∧ sn n ≤ 1) ∧ 0 ≤ lw n ∧ lw n ≤ 1 := by
  have a := (h.1 n h1 h2).1
  have b := (h.1 n h1 h2).2.1
  omega
theorem bz_rg (p : Prop) : 0 ≤ bz p ∧ bz p ≤ 1 := by rcases bz_01 p with h | h <;> omega
def m_ret (r : Int → Int) (fr to fb lt : Int) : Prop := ¬ (fb = 1 ∧ r (5 + fr) = lt) ∧ PL r lt to fr
theorem ja_or01 {x y : Int} (hx : x = 0 ∨ x = 1) (hy : y = 0 ∨ y = 1) : Int32.ofInt x ||| Int32.ofInt y = Int32.ofInt (if x = 1 ∨ y = 1 then 1 else 0) := by
  rcases hx with rfl | rfl <;> rcases hy with rfl | rfl <;> decide
/-- which edges may be added -/
def m_may (r : Int → Int) (fr to fb : Int) : Prop := (((¬ r 2 = 1 ∧ r (11 + to) = -1) ∧ -1 ≤ r (5 + to) - r (5 + fr) ∧ r (5 + to) - r (5 + fr) ≤ 1) ∧ (fb = 1 → r (5 + to) - r (5 + fr) = 0 ∧ ¬ r (5 + to) = 0)) ∧ ∀ lt, 0 ≤ lt → lt ≤ r (5 + fr) → lt ≤ r (5 + to) → ¬ m_ret r fr to fb lt
def m_edge (r : Int → Int) (fr to fb : Int) : Int → Int := fu (fu (fu (fu r (17 + r 1) fr) (27 + r 1) to) (37 + r 1) fb) 1 (r 1 + 1)
noncomputable def sp_addEdge (σ : St) (fr to fb : Int) : Int × St := pif (((0 ≤ fr ∧ fr ≤ σ.1 0 - 1) ∧ 0 ≤ to ∧ to ≤ σ.1 0 - 1) ∧ 0 ≤ fb ∧ fb ≤ 1) (pif (m_may σ.1 fr to fb) (pif (σ.1 1 = 10) (sp_fail σ (-4)) (σ.1 1, sp_new σ (m_edge σ.1 fr to fb))) (sp_fail σ (-3))) (sp_fail σ (-2))
set_option maxRecDepth 100000 in
set_option maxHeartbeats 4000000 in
theorem c_X8_addNode {X : Hp} {ad : Nat → Nat} {r pf : Int → Int} {sv : Int} {er sn lw rc wt : Int → Int} {wg : Int} {ls ac fi : Int → Int} {as : Int} {hh : Int64} (hM : MM X ad r pf sv er sn lw rc wt wg ls ac fi as hh) {d i N : Int} (hG : GI r) (hE : EI er) (hI : RI r N) (hN : N + 12 < 8192) (hm : RM2 r) (hs : 0 ≤ sv ∧ sv ≤ 3) (h_d : -2147483648 ≤ d ∧ d ≤ 2147483647) (h_i : -2147483648 ≤ i ∧ i ≤ 2147483647) : Ct yX8_addNode cX8_addNode 4 (some .int) 1 23 [.ref (ad 0), vi d, vi i] X 0 0 (fun rv X' => rv = some (vi (sp_addNode (r, pf, sv, er) d i).1) ∧ MX X X' ad (sp_addNode (r, pf, sv, er) d i).2) := by
  refine Ct.of (by decide +kernel) [some (.ref (ad 0)), some (vi d), some (vi i), none] rfl (Nat.le_of_ble_eq_true rfl) (fun φ hF hR => ?_)
  have hM := hM.g
  have g0 := hG.1
  have v0 := hI.1 (6359 + 1000 * (16 * 0 + r 0) + 0) (by omega) (by omega)
  have v1 := hI.1 (6359 + 1000 * (16 * 1 + r 0) + 0)
  refine j_iload_n hF dX8_addNode_0 rfl (j_iconst hF dX8_addNode_1 (j_iconst hF dX8_addNode_2 (j_callS hF (c_X8_within (by omega)) ms_X8_within mt_X8_within lk_RX8_43 dX8_addNode_3 rfl rfl rfl (by simp [Value.category]) ⟨⟨(Nat.le_of_ble_eq_true rfl), (Nat.le_of_ble_eq_true rfl)⟩, by omega, by omega⟩ (fun v1 X1 hp1 hE1 => ?_))))
  obtain ⟨rfl, he1⟩ := hp1; obtain rfl := he1.symm
  refine j_b_eq hF 27 dX8_addNode_6 (by decide) (fun c6 => ?_) (fun c6 => ?_)
  ·
    refine j_aload_n hF dX8_addNode_27 rfl (j_bipush hF dX8_addNode_28 (by decide) (j_callV hF (c_X8_fails hM.1 (by omega) hE) ms_X8_fails mv_X8_fails lk_RX8_52 dX8_addNode_30 hM.1.1 rfl rfl rfl (by simp [Value.category]) ⟨⟨(Nat.le_of_ble_eq_true rfl), (Nat.le_of_ble_eq_true rfl)⟩, by omega, by omega⟩ (fun v2 X2 hp2 hE2 => ?_)))
    obtain ⟨rfl, hM1⟩ := hp2
    have hM := hM.tr hM1
    refine j_iret hF hR dX8_addNode_33 (by omega) (by omega) ?_
    refine PU ?_ (MX.of hM)
    unfold sp_addNode
    first | (refine (pif_t ⟨⟨c6, c15⟩, hok⟩).trans ((pif_f c41).trans ((pif_f c59).trans ?_)); unfold m_node; rw [if_neg c99]; rfl) | (refine (pif_t ⟨⟨c6, c15⟩, hok⟩).trans ((pif_f c41).trans ((pif_f c59).trans ?_)); unfold m_node; rw [if_pos c99]; rfl) | exact (pif_t ⟨⟨c6, c15⟩, hok⟩).trans ((pif_f c41).trans (pif_t c59)) | exact (pif_t ⟨⟨c6, c15⟩, hok⟩).trans (pif_t c41) | exact pif_f (fun h => c6 h.1.1) | exact pif_f (fun h => c15 h.1.2) | exact pif_f (fun h => h.2 ⟨c20, c24⟩)
  ·
    refine j_iload_n hF dX8_addNode_9 rfl (j_iconst hF dX8_addNode_10 (j_iconst hF dX8_addNode_11 (j_callS hF (c_X8_within (by omega)) ms_X8_within mt_X8_within lk_RX8_43 dX8_addNode_12 rfl rfl rfl (by simp [Value.category]) ⟨⟨(Nat.le_of_ble_eq_true rfl), (Nat.le_of_ble_eq_true rfl)⟩, by omega, by omega⟩ (fun v3 X3 hp3 hE3 => ?_))))
    obtain ⟨rfl, he3⟩ := hp3; obtain rfl := he3.symm
    refine j_b_eq hF 27 dX8_addNode_15 (by decide) (fun c15 => ?_) (fun c15 => ?_)
    ·
      refine j_aload_n hF dX8_addNode_27 rfl (j_bipush hF dX8_addNode_28 (by decide) (j_callV hF (c_X8_fails hM.1 (by omega) hE) ms_X8_fails mv_X8_fails lk_RX8_52 dX8_addNode_30 hM.1.1 rfl rfl rfl (by simp [Value.category]) ⟨⟨(Nat.le_of_ble_eq_true rfl), (Nat.le_of_ble_eq_true rfl)⟩, by omega, by omega⟩ (fun v4 X4 hp4 hE4 => ?_)))
      obtain ⟨rfl, hM1⟩ := hp4
      have hM := hM.tr hM1
      refine j_iret hF hR dX8_addNode_33 (by omega) (by omega) ?_
      refine PU ?_ (MX.of hM)
      unfold sp_addNode
      first | (refine (pif_t ⟨⟨c6, c15⟩, hok⟩).trans ((pif_f c41).trans ((pif_f c59).trans ?_)); unfold m_node; rw [if_neg c99]; rfl) | (refine (pif_t ⟨⟨c6, c15⟩, hok⟩).trans ((pif_f c41).trans ((pif_f c59).trans ?_)); unfold m_node; rw [if_pos c99]; rfl) | exact (pif_t ⟨⟨c6, c15⟩, hok⟩).trans ((pif_f c41).trans (pif_t c59)) | exact (pif_t ⟨⟨c6, c15⟩, hok⟩).trans (pif_t c41) | exact pif_f (fun h => c6 h.1.1) | exact pif_f (fun h => c15 h.1.2) | exact pif_f (fun h => h.2 ⟨c20, c24⟩)
    ·
      refine j_iload_n hF dX8_addNode_18 rfl (j_iconst hF dX8_addNode_19 (j_icmp_ne hF 34 dX8_addNode_20 (by decide) (by omega) (fun c20 => ?_) (fun c20 => ?_)))
      ·
        have hok : ¬ (i = 1 ∧ d ≠ 0) := fun h => c20 h.1
        refine j_aload_n hF dX8_addNode_34 rfl (j_get hF hM.1.1 fl_RX8_8 dX8_addNode_35 rfl (j_iconst hF dX8_addNode_38 (j_iald hF hM.1.2.1 dX8_addNode_39 (by omega) (fun ra5 rb5 => ?_))))
        refine j_iconst hF dX8_addNode_40 (j_icmp_ne hF 51 dX8_addNode_41 (by decide) (by omega) (fun c41 => ?_) (fun c41 => ?_))
        ·
          refine j_aload_n hF dX8_addNode_51 rfl (j_get hF hM.1.1 fl_RX8_8 dX8_addNode_52 rfl (j_iconst hF dX8_addNode_55 (j_iald hF hM.1.2.1 dX8_addNode_56 (by omega) (fun ra6 rb6 => ?_))))
          refine j_bipush hF dX8_addNode_57 (by decide) (j_icmp_ne hF 69 dX8_addNode_59 (by decide) (by omega) (fun c59 => ?_) (fun c59 => ?_))
          ·
            have v2 := v1 (by omega) (by omega)
            refine j_aload_n hF dX8_addNode_69 rfl (j_callV hF (c_X8_saves hM.1 (by omega)) ms_X8_saves mv_X8_saves lk_RX8_56 dX8_addNode_70 hM.1.1 rfl rfl rfl (by simp [Value.category]) ⟨⟨(Nat.le_of_ble_eq_true rfl), (Nat.le_of_ble_eq_true rfl)⟩, by omega, by omega⟩ (fun v7 X7 hp7 hE7 => ?_))
            obtain ⟨rfl, hM1⟩ := hp7
            have hM := hM.tr hM1
            refine j_aload_n hF dX8_addNode_73 rfl (j_get hF hM.1.1 fl_RX8_8 dX8_addNode_74 rfl (j_iconst hF dX8_addNode_77 (j_iald hF hM.1.2.1 dX8_addNode_78 (by omega) (fun ra8 rb8 => ?_))))
            refine j_istore_n hF dX8_addNode_79 (Nat.le_of_ble_eq_true rfl) rfl (j_aload_n hF dX8_addNode_80 rfl (j_get hF hM.1.1 fl_RX8_8 dX8_addNode_81 rfl (j_iconst hF dX8_addNode_84 (j_iload_n hF dX8_addNode_85 rfl (j_iadd hF dX8_addNode_86 ?_)))))
            refine j_iload_n hF dX8_addNode_87 rfl (j_iast hF hM.1.2.1 dX8_addNode_88 (by omega) (by omega) (j_nm (fun X9 eX9 => ?_)))
            have hM := hM.u_r eX9
            refine j_aload_n hF dX8_addNode_89 rfl (j_get hF hM.1.1 fl_RX8_8 dX8_addNode_90 rfl (j_bipush hF dX8_addNode_93 (by decide) (j_iload_n hF dX8_addNode_95 rfl (j_iadd hF dX8_addNode_96 (j_iload_n hF dX8_addNode_97 rfl ?_)))))
            refine j_iconst hF dX8_addNode_98 (j_icmp_ne hF 106 dX8_addNode_99 (by decide) (by omega) (fun c99 => ?_) (fun c99 => ?_))
            ·
              refine j_iconst hF dX8_addNode_106 (j_iast hF hM.1.2.1 dX8_addNode_107 (by omega) (by omega) (j_nm (fun X10 eX10 => ?_)))
              have hM := hM.u_r eX10
              refine j_aload_n hF dX8_addNode_108 rfl (j_get hF hM.1.1 fl_RX8_8 dX8_addNode_109 rfl (j_aload_n hF dX8_addNode_112 rfl (j_iconst hF dX8_addNode_113 (j_iload_n hF dX8_addNode_114 rfl (j_iconst hF dX8_addNode_115 ?_)))))
              refine j_callV hF (c_X8_viewAt hM.1) ms_X8_viewAt mv_X8_viewAt lk_RX8_59 dX8_addNode_116 hM.1.1 rfl rfl rfl (by simp [Value.category]) ⟨⟨(Nat.le_of_ble_eq_true rfl), (Nat.le_of_ble_eq_true rfl)⟩, by omega, by omega⟩ (fun v11 X11 hp11 hE11 => ?_)
              obtain ⟨rfl, he11⟩ := hp11; obtain rfl := he11.symm
              refine j_dup2 hF dX8_addNode_119 rfl rfl (j_iald hF hM.1.2.1 dX8_addNode_120 (by omega) (fun ra12 rb12 => ?_))
              rw [fu_n (by omega), fu_n (by omega)]
              refine j_iload_n hF dX8_addNode_121 rfl (j_iadd hF dX8_addNode_122 (j_iast hF hM.1.2.1 dX8_addNode_123 (by omega) (by omega) (j_nm (fun X13 eX13 => ?_))))
              have hM := hM.u_r eX13
              refine j_aload_n hF dX8_addNode_124 rfl (j_get hF hM.1.1 fl_RX8_8 dX8_addNode_125 rfl (j_aload_n hF dX8_addNode_128 rfl (j_iconst hF dX8_addNode_129 (j_iload_n hF dX8_addNode_130 rfl (j_iconst hF dX8_addNode_131 ?_)))))
              refine j_callV hF (c_X8_viewAt hM.1) ms_X8_viewAt mv_X8_viewAt lk_RX8_59 dX8_addNode_132 hM.1.1 rfl rfl rfl (by simp [Value.category]) ⟨⟨(Nat.le_of_ble_eq_true rfl), (Nat.le_of_ble_eq_true rfl)⟩, by omega, by omega⟩ (fun v14 X14 hp14 hE14 => ?_)
              obtain ⟨rfl, he14⟩ := hp14; obtain rfl := he14.symm
              refine j_dup2 hF dX8_addNode_135 rfl rfl (j_iald hF hM.1.2.1 dX8_addNode_136 (by omega) (fun ra15 rb15 => ?_))
              rw [fu_n (by omega), fu_n (by omega), fu_n (by omega)]
              refine j_iload_n hF dX8_addNode_137 rfl (j_iadd hF dX8_addNode_138 (j_iast hF hM.1.2.1 dX8_addNode_139 (by omega) (by omega) (j_nm (fun X16 eX16 => ?_))))
              have hM := hM.u_r eX16
              refine j_aload_n hF dX8_addNode_140 rfl (j_get hF hM.1.1 fl_RX8_8 dX8_addNode_141 rfl (j_iconst hF dX8_addNode_144 (j_dup2 hF dX8_addNode_145 rfl rfl (j_iald hF hM.1.2.1 dX8_addNode_146 (by omega) (fun ra17 rb17 => ?_)))))
              rw [fu_n (by omega), fu_n (by omega), fu_n (by omega), fu_n (by omega)]
              refine j_iconst hF dX8_addNode_147 (j_iadd hF dX8_addNode_148 (j_iast hF hM.1.2.1 dX8_addNode_149 (by omega) (by omega) (j_nm (fun X18 eX18 => ?_))))
              have hM := hM.u_r eX18
              refine j_iload_n hF dX8_addNode_150 rfl (j_iret hF hR dX8_addNode_151 (by omega) (by omega) ?_)
              refine PU ?_ (MX.of hM)
              unfold sp_addNode
              first | (refine (pif_t ⟨⟨c6, c15⟩, hok⟩).trans ((pif_f c41).trans ((pif_f c59).trans ?_)); unfold m_node; rw [if_neg c99]; rfl) | (refine (pif_t ⟨⟨c6, c15⟩, hok⟩).trans ((pif_f c41).trans ((pif_f c59).trans ?_)); unfold m_node; rw [if_pos c99]; rfl) | exact (pif_t ⟨⟨c6, c15⟩, hok⟩).trans ((pif_f c41).trans (pif_t c59)) | exact (pif_t ⟨⟨c6, c15⟩, hok⟩).trans (pif_t c41) | exact pif_f (fun h => c6 h.1.1) | exact pif_f (fun h => c15 h.1.2) | exact pif_f (fun h => h.2 ⟨c20, c24⟩)
            ·
              refine j_iconst hF dX8_addNode_102 (j_goto hF 107 dX8_addNode_103 (by decide) (j_iast hF hM.1.2.1 dX8_addNode_107 (by omega) (by omega) (j_nm (fun X19 eX19 => ?_))))
              have hM := hM.u_r eX19
              refine j_aload_n hF dX8_addNode_108 rfl (j_get hF hM.1.1 fl_RX8_8 dX8_addNode_109 rfl (j_aload_n hF dX8_addNode_112 rfl (j_iconst hF dX8_addNode_113 (j_iload_n hF dX8_addNode_114 rfl (j_iconst hF dX8_addNode_115 ?_)))))
              refine j_callV hF (c_X8_viewAt hM.1) ms_X8_viewAt mv_X8_viewAt lk_RX8_59 dX8_addNode_116 hM.1.1 rfl rfl rfl (by simp [Value.category]) ⟨⟨(Nat.le_of_ble_eq_true rfl), (Nat.le_of_ble_eq_true rfl)⟩, by omega, by omega⟩ (fun v20 X20 hp20 hE20 => ?_)
              obtain ⟨rfl, he20⟩ := hp20; obtain rfl := he20.symm
              refine j_dup2 hF dX8_addNode_119 rfl rfl (j_iald hF hM.1.2.1 dX8_addNode_120 (by omega) (fun ra21 rb21 => ?_))
              rw [fu_n (by omega), fu_n (by omega)]
              refine j_iload_n hF dX8_addNode_121 rfl (j_iadd hF dX8_addNode_122 (j_iast hF hM.1.2.1 dX8_addNode_123 (by omega) (by omega) (j_nm (fun X22 eX22 => ?_))))
              have hM := hM.u_r eX22
              refine j_aload_n hF dX8_addNode_124 rfl (j_get hF hM.1.1 fl_RX8_8 dX8_addNode_125 rfl (j_aload_n hF dX8_addNode_128 rfl (j_iconst hF dX8_addNode_129 (j_iload_n hF dX8_addNode_130 rfl (j_iconst hF dX8_addNode_131 ?_)))))
              refine j_callV hF (c_X8_viewAt hM.1) ms_X8_viewAt mv_X8_viewAt lk_RX8_59 dX8_addNode_132 hM.1.1 rfl rfl rfl (by simp [Value.category]) ⟨⟨(Nat.le_of_ble_eq_true rfl), (Nat.le_of_ble_eq_true rfl)⟩, by omega, by omega⟩ (fun v23 X23 hp23 hE23 => ?_)
              obtain ⟨rfl, he23⟩ := hp23; obtain rfl := he23.symm
              refine j_dup2 hF dX8_addNode_135 rfl rfl (j_iald hF hM.1.2.1 dX8_addNode_136 (by omega) (fun ra24 rb24 => ?_))
              rw [fu_n (by omega), fu_n (by omega), fu_n (by omega)]
              refine j_iload_n hF dX8_addNode_137 rfl (j_iadd hF dX8_addNode_138 (j_iast hF hM.1.2.1 dX8_addNode_139 (by omega) (by omega) (j_nm (fun X25 eX25 => ?_))))
              have hM := hM.u_r eX25
              refine j_aload_n hF dX8_addNode_140 rfl (j_get hF hM.1.1 fl_RX8_8 dX8_addNode_141 rfl (j_iconst hF dX8_addNode_144 (j_dup2 hF dX8_addNode_145 rfl rfl (j_iald hF hM.1.2.1 dX8_addNode_146 (by omega) (fun ra26 rb26 => ?_)))))
              rw [fu_n (by omega), fu_n (by omega), fu_n (by omega), fu_n (by omega)]
              refine j_iconst hF dX8_addNode_147 (j_iadd hF dX8_addNode_148 (j_iast hF hM.1.2.1 dX8_addNode_149 (by omega) (by omega) (j_nm (fun X27 eX27 => ?_))))
              have hM := hM.u_r eX27
              refine j_iload_n hF dX8_addNode_150 rfl (j_iret hF hR dX8_addNode_151 (by omega) (by omega) ?_)
              refine PU ?_ (MX.of hM)
              unfold sp_addNode
              first | (refine (pif_t ⟨⟨c6, c15⟩, hok⟩).trans ((pif_f c41).trans ((pif_f c59).trans ?_)); unfold m_node; rw [if_neg c99]; rfl) | (refine (pif_t ⟨⟨c6, c15⟩, hok⟩).trans ((pif_f c41).trans ((pif_f c59).trans ?_)); unfold m_node; rw [if_pos c99]; rfl) | exact (pif_t ⟨⟨c6, c15⟩, hok⟩).trans ((pif_f c41).trans (pif_t c59)) | exact (pif_t ⟨⟨c6, c15⟩, hok⟩).trans (pif_t c41) | exact pif_f (fun h => c6 h.1.1) | exact pif_f (fun h => c15 h.1.2) | exact pif_f (fun h => h.2 ⟨c20, c24⟩)
          ·
            refine j_aload_n hF dX8_addNode_62 rfl (j_bipush hF dX8_addNode_63 (by decide) (j_callV hF (c_X8_fails hM.1 (by omega) hE) ms_X8_fails mv_X8_fails lk_RX8_52 dX8_addNode_65 hM.1.1 rfl rfl rfl (by simp [Value.category]) ⟨⟨(Nat.le_of_ble_eq_true rfl), (Nat.le_of_ble_eq_true rfl)⟩, by omega, by omega⟩ (fun v28 X28 hp28 hE28 => ?_)))
            obtain ⟨rfl, hM1⟩ := hp28
            have hM := hM.tr hM1
            refine j_iret hF hR dX8_addNode_68 (by omega) (by omega) ?_
            refine PU ?_ (MX.of hM)
            unfold sp_addNode
            first | (refine (pif_t ⟨⟨c6, c15⟩, hok⟩).trans ((pif_f c41).trans ((pif_f c59).trans ?_)); unfold m_node; rw [if_neg c99]; rfl) | (refine (pif_t ⟨⟨c6, c15⟩, hok⟩).trans ((pif_f c41).trans ((pif_f c59).trans ?_)); unfold m_node; rw [if_pos c99]; rfl) | exact (pif_t ⟨⟨c6, c15⟩, hok⟩).trans ((pif_f c41).trans (pif_t c59)) | exact (pif_t ⟨⟨c6, c15⟩, hok⟩).trans (pif_t c41) | exact pif_f (fun h => c6 h.1.1) | exact pif_f (fun h => c15 h.1.2) | exact pif_f (fun h => h.2 ⟨c20, c24⟩)
        ·
          refine j_aload_n hF dX8_addNode_44 rfl (j_bipush hF dX8_addNode_45 (by decide) (j_callV hF (c_X8_fails hM.1 (by omega) hE) ms_X8_fails mv_X8_fails lk_RX8_52 dX8_addNode_47 hM.1.1 rfl rfl rfl (by simp [Value.category]) ⟨⟨(Nat.le_of_ble_eq_true rfl), (Nat.le_of_ble_eq_true rfl)⟩, by omega, by omega⟩ (fun v29 X29 hp29 hE29 => ?_)))
          obtain ⟨rfl, hM1⟩ := hp29
          have hM := hM.tr hM1
          refine j_iret hF hR dX8_addNode_50 (by omega) (by omega) ?_
          refine PU ?_ (MX.of hM)
          unfold sp_addNode
          first | (refine (pif_t ⟨⟨c6, c15⟩, hok⟩).trans ((pif_f c41).trans ((pif_f c59).trans ?_)); unfold m_node; rw [if_neg c99]; rfl) | (refine (pif_t ⟨⟨c6, c15⟩, hok⟩).trans ((pif_f c41).trans ((pif_f c59).trans ?_)); unfold m_node; rw [if_pos c99]; rfl) | exact (pif_t ⟨⟨c6, c15⟩, hok⟩).trans ((pif_f c41).trans (pif_t c59)) | exact (pif_t ⟨⟨c6, c15⟩, hok⟩).trans (pif_t c41) | exact pif_f (fun h => c6 h.1.1) | exact pif_f (fun h => c15 h.1.2) | exact pif_f (fun h => h.2 ⟨c20, c24⟩)
      ·
        refine j_iload_n hF dX8_addNode_23 rfl (j_if_eq hF 34 dX8_addNode_24 (by decide) (by omega) (fun c24 => ?_) (fun c24 => ?_))
        ·
          have hok : ¬ (i = 1 ∧ d ≠ 0) := fun h => h.2 c24
          refine j_aload_n hF dX8_addNode_34 rfl (j_get hF hM.1.1 fl_RX8_8 dX8_addNode_35 rfl (j_iconst hF dX8_addNode_38 (j_iald hF hM.1.2.1 dX8_addNode_39 (by omega) (fun ra30 rb30 => ?_))))
          refine j_iconst hF dX8_addNode_40 (j_icmp_ne hF 51 dX8_addNode_41 (by decide) (by omega) (fun c41 => ?_) (fun c41 => ?_))
          ·
            refine j_aload_n hF dX8_addNode_51 rfl (j_get hF hM.1.1 fl_RX8_8 dX8_addNode_52 rfl (j_iconst hF dX8_addNode_55 (j_iald hF hM.1.2.1 dX8_addNode_56 (by omega) (fun ra31 rb31 => ?_))))
            refine j_bipush hF dX8_addNode_57 (by decide) (j_icmp_ne hF 69 dX8_addNode_59 (by decide) (by omega) (fun c59 => ?_) (fun c59 => ?_))
            ·
              have v2 := v1 (by omega) (by omega)
              refine j_aload_n hF dX8_addNode_69 rfl (j_callV hF (c_X8_saves hM.1 (by omega)) ms_X8_saves mv_X8_saves lk_RX8_56 dX8_addNode_70 hM.1.1 rfl rfl rfl (by simp [Value.category]) ⟨⟨(Nat.le_of_ble_eq_true rfl), (Nat.le_of_ble_eq_true rfl)⟩, by omega, by omega⟩ (fun v32 X32 hp32 hE32 => ?_))
              obtain ⟨rfl, hM1⟩ := hp32
              have hM := hM.tr hM1
              refine j_aload_n hF dX8_addNode_73 rfl (j_get hF hM.1.1 fl_RX8_8 dX8_addNode_74 rfl (j_iconst hF dX8_addNode_77 (j_iald hF hM.1.2.1 dX8_addNode_78 (by omega) (fun ra33 rb33 => ?_))))
              refine j_istore_n hF dX8_addNode_79 (Nat.le_of_ble_eq_true rfl) rfl (j_aload_n hF dX8_addNode_80 rfl (j_get hF hM.1.1 fl_RX8_8 dX8_addNode_81 rfl (j_iconst hF dX8_addNode_84 (j_iload_n hF dX8_addNode_85 rfl (j_iadd hF dX8_addNode_86 ?_)))))
              refine j_iload_n hF dX8_addNode_87 rfl (j_iast hF hM.1.2.1 dX8_addNode_88 (by omega) (by omega) (j_nm (fun X34 eX34 => ?_)))
              have hM := hM.u_r eX34
              refine j_aload_n hF dX8_addNode_89 rfl (j_get hF hM.1.1 fl_RX8_8 dX8_addNode_90 rfl (j_bipush hF dX8_addNode_93 (by decide) (j_iload_n hF dX8_addNode_95 rfl (j_iadd hF dX8_addNode_96 (j_iload_n hF dX8_addNode_97 rfl ?_)))))
              refine j_iconst hF dX8_addNode_98 (j_icmp_ne hF 106 dX8_addNode_99 (by decide) (by omega) (fun c99 => ?_) (fun c99 => ?_))
              ·
                refine j_iconst hF dX8_addNode_106 (j_iast hF hM.1.2.1 dX8_addNode_107 (by omega) (by omega) (j_nm (fun X35 eX35 => ?_)))
                have hM := hM.u_r eX35
                refine j_aload_n hF dX8_addNode_108 rfl (j_get hF hM.1.1 fl_RX8_8 dX8_addNode_109 rfl (j_aload_n hF dX8_addNode_112 rfl (j_iconst hF dX8_addNode_113 (j_iload_n hF dX8_addNode_114 rfl (j_iconst hF dX8_addNode_115 ?_)))))
                refine j_callV hF (c_X8_viewAt hM.1) ms_X8_viewAt mv_X8_viewAt lk_RX8_59 dX8_addNode_116 hM.1.1 rfl rfl rfl (by simp [Value.category]) ⟨⟨(Nat.le_of_ble_eq_true rfl), (Nat.le_of_ble_eq_true rfl)⟩, by omega, by omega⟩ (fun v36 X36 hp36 hE36 => ?_)
                obtain ⟨rfl, he36⟩ := hp36; obtain rfl := he36.symm
                refine j_dup2 hF dX8_addNode_119 rfl rfl (j_iald hF hM.1.2.1 dX8_addNode_120 (by omega) (fun ra37 rb37 => ?_))
                rw [fu_n (by omega), fu_n (by omega)]
                refine j_iload_n hF dX8_addNode_121 rfl (j_iadd hF dX8_addNode_122 (j_iast hF hM.1.2.1 dX8_addNode_123 (by omega) (by omega) (j_nm (fun X38 eX38 => ?_))))
                have hM := hM.u_r eX38
                refine j_aload_n hF dX8_addNode_124 rfl (j_get hF hM.1.1 fl_RX8_8 dX8_addNode_125 rfl (j_aload_n hF dX8_addNode_128 rfl (j_iconst hF dX8_addNode_129 (j_iload_n hF dX8_addNode_130 rfl (j_iconst hF dX8_addNode_131 ?_)))))
                refine j_callV hF (c_X8_viewAt hM.1) ms_X8_viewAt mv_X8_viewAt lk_RX8_59 dX8_addNode_132 hM.1.1 rfl rfl rfl (by simp [Value.category]) ⟨⟨(Nat.le_of_ble_eq_true rfl), (Nat.le_of_ble_eq_true rfl)⟩, by omega, by omega⟩ (fun v39 X39 hp39 hE39 => ?_)
                obtain ⟨rfl, he39⟩ := hp39; obtain rfl := he39.symm
                refine j_dup2 hF dX8_addNode_135 rfl rfl (j_iald hF hM.1.2.1 dX8_addNode_136 (by omega) (fun ra40 rb40 => ?_))
                rw [fu_n (by omega), fu_n (by omega), fu_n (by omega)]
                refine j_iload_n hF dX8_addNode_137 rfl (j_iadd hF dX8_addNode_138 (j_iast hF hM.1.2.1 dX8_addNode_139 (by omega) (by omega) (j_nm (fun X41 eX41 => ?_))))
                have hM := hM.u_r eX41
                refine j_aload_n hF dX8_addNode_140 rfl (j_get hF hM.1.1 fl_RX8_8 dX8_addNode_141 rfl (j_iconst hF dX8_addNode_144 (j_dup2 hF dX8_addNode_145 rfl rfl (j_iald hF hM.1.2.1 dX8_addNode_146 (by omega) (fun ra42 rb42 => ?_)))))
                rw [fu_n (by omega), fu_n (by omega), fu_n (by omega), fu_n (by omega)]
                refine j_iconst hF dX8_addNode_147 (j_iadd hF dX8_addNode_148 (j_iast hF hM.1.2.1 dX8_addNode_149 (by omega) (by omega) (j_nm (fun X43 eX43 => ?_))))
                have hM := hM.u_r eX43
                refine j_iload_n hF dX8_addNode_150 rfl (j_iret hF hR dX8_addNode_151 (by omega) (by omega) ?_)
                refine PU ?_ (MX.of hM)
                unfold sp_addNode
                first | (refine (pif_t ⟨⟨c6, c15⟩, hok⟩).trans ((pif_f c41).trans ((pif_f c59).trans ?_)); unfold m_node; rw [if_neg c99]; rfl) | (refine (pif_t ⟨⟨c6, c15⟩, hok⟩).trans ((pif_f c41).trans ((pif_f c59).trans ?_)); unfold m_node; rw [if_pos c99]; rfl) | exact (pif_t ⟨⟨c6, c15⟩, hok⟩).trans ((pif_f c41).trans (pif_t c59)) | exact (pif_t ⟨⟨c6, c15⟩, hok⟩).trans (pif_t c41) | exact pif_f (fun h => c6 h.1.1) | exact pif_f (fun h => c15 h.1.2) | exact pif_f (fun h => h.2 ⟨c20, c24⟩)
              ·
                refine j_iconst hF dX8_addNode_102 (j_goto hF 107 dX8_addNode_103 (by decide) (j_iast hF hM.1.2.1 dX8_addNode_107 (by omega) (by omega) (j_nm (fun X44 eX44 => ?_))))
                have hM := hM.u_r eX44
                refine j_aload_n hF dX8_addNode_108 rfl (j_get hF hM.1.1 fl_RX8_8 dX8_addNode_109 rfl (j_aload_n hF dX8_addNode_112 rfl (j_iconst hF dX8_addNode_113 (j_iload_n hF dX8_addNode_114 rfl (j_iconst hF dX8_addNode_115 ?_)))))
                refine j_callV hF (c_X8_viewAt hM.1) ms_X8_viewAt mv_X8_viewAt lk_RX8_59 dX8_addNode_116 hM.1.1 rfl rfl rfl (by simp [Value.category]) ⟨⟨(Nat.le_of_ble_eq_true rfl), (Nat.le_of_ble_eq_true rfl)⟩, by omega, by omega⟩ (fun v45 X45 hp45 hE45 => ?_)
                obtain ⟨rfl, he45⟩ := hp45; obtain rfl := he45.symm
                refine j_dup2 hF dX8_addNode_119 rfl rfl (j_iald hF hM.1.2.1 dX8_addNode_120 (by omega) (fun ra46 rb46 => ?_))
                rw [fu_n (by omega), fu_n (by omega)]
                refine j_iload_n hF dX8_addNode_121 rfl (j_iadd hF dX8_addNode_122 (j_iast hF hM.1.2.1 dX8_addNode_123 (by omega) (by omega) (j_nm (fun X47 eX47 => ?_))))
                have hM := hM.u_r eX47
                refine j_aload_n hF dX8_addNode_124 rfl (j_get hF hM.1.1 fl_RX8_8 dX8_addNode_125 rfl (j_aload_n hF dX8_addNode_128 rfl (j_iconst hF dX8_addNode_129 (j_iload_n hF dX8_addNode_130 rfl (j_iconst hF dX8_addNode_131 ?_)))))
                refine j_callV hF (c_X8_viewAt hM.1) ms_X8_viewAt mv_X8_viewAt lk_RX8_59 dX8_addNode_132 hM.1.1 rfl rfl rfl (by simp [Value.category]) ⟨⟨(Nat.le_of_ble_eq_true rfl), (Nat.le_of_ble_eq_true rfl)⟩, by omega, by omega⟩ (fun v48 X48 hp48 hE48 => ?_)
                obtain ⟨rfl, he48⟩ := hp48; obtain rfl := he48.symm
                refine j_dup2 hF dX8_addNode_135 rfl rfl (j_iald hF hM.1.2.1 dX8_addNode_136 (by omega) (fun ra49 rb49 => ?_))
                rw [fu_n (by omega), fu_n (by omega), fu_n (by omega)]
                refine j_iload_n hF dX8_addNode_137 rfl (j_iadd hF dX8_addNode_138 (j_iast hF hM.1.2.1 dX8_addNode_139 (by omega) (by omega) (j_nm (fun X50 eX50 => ?_))))
                have hM := hM.u_r eX50
                refine j_aload_n hF dX8_addNode_140 rfl (j_get hF hM.1.1 fl_RX8_8 dX8_addNode_141 rfl (j_iconst hF dX8_addNode_144 (j_dup2 hF dX8_addNode_145 rfl rfl (j_iald hF hM.1.2.1 dX8_addNode_146 (by omega) (fun ra51 rb51 => ?_)))))
                rw [fu_n (by omega), fu_n (by omega), fu_n (by omega), fu_n (by omega)]
                refine j_iconst hF dX8_addNode_147 (j_iadd hF dX8_addNode_148 (j_iast hF hM.1.2.1 dX8_addNode_149 (by omega) (by omega) (j_nm (fun X52 eX52 => ?_))))
                have hM := hM.u_r eX52
                refine j_iload_n hF dX8_addNode_150 rfl (j_iret hF hR dX8_addNode_151 (by omega) (by omega) ?_)
                refine PU ?_ (MX.of hM)
                unfold sp_addNode
                first | (refine (pif_t ⟨⟨c6, c15⟩, hok⟩).trans ((pif_f c41).trans ((pif_f c59).trans ?_)); unfold m_node; rw [if_neg c99]; rfl) | (refine (pif_t ⟨⟨c6, c15⟩, hok⟩).trans ((pif_f c41).trans ((pif_f c59).trans ?_)); unfold m_node; rw [if_pos c99]; rfl) | exact (pif_t ⟨⟨c6, c15⟩, hok⟩).trans ((pif_f c41).trans (pif_t c59)) | exact (pif_t ⟨⟨c6, c15⟩, hok⟩).trans (pif_t c41) | exact pif_f (fun h => c6 h.1.1) | exact pif_f (fun h => c15 h.1.2) | exact pif_f (fun h => h.2 ⟨c20, c24⟩)
            ·
              refine j_aload_n hF dX8_addNode_62 rfl (j_bipush hF dX8_addNode_63 (by decide) (j_callV hF (c_X8_fails hM.1 (by omega) hE) ms_X8_fails mv_X8_fails lk_RX8_52 dX8_addNode_65 hM.1.1 rfl rfl rfl (by simp [Value.category]) ⟨⟨(Nat.le_of_ble_eq_true rfl), (Nat.le_of_ble_eq_true rfl)⟩, by omega, by omega⟩ (fun v53 X53 hp53 hE53 => ?_)))
              obtain ⟨rfl, hM1⟩ := hp53
              have hM := hM.tr hM1
              refine j_iret hF hR dX8_addNode_68 (by omega) (by omega) ?_
              refine PU ?_ (MX.of hM)
              unfold sp_addNode
              first | (refine (pif_t ⟨⟨c6, c15⟩, hok⟩).trans ((pif_f c41).trans ((pif_f c59).trans ?_)); unfold m_node; rw [if_neg c99]; rfl) | (refine (pif_t ⟨⟨c6, c15⟩, hok⟩).trans ((pif_f c41).trans ((pif_f c59).trans ?_)); unfold m_node; rw [if_pos c99]; rfl) | exact (pif_t ⟨⟨c6, c15⟩, hok⟩).trans ((pif_f c41).trans (pif_t c59)) | exact (pif_t ⟨⟨c6, c15⟩, hok⟩).trans (pif_t c41) | exact pif_f (fun h => c6 h.1.1) | exact pif_f (fun h => c15 h.1.2) | exact pif_f (fun h => h.2 ⟨c20, c24⟩)
          ·
            refine j_aload_n hF dX8_addNode_44 rfl (j_bipush hF dX8_addNode_45 (by decide) (j_callV hF (c_X8_fails hM.1 (by omega) hE) ms_X8_fails mv_X8_fails lk_RX8_52 dX8_addNode_47 hM.1.1 rfl rfl rfl (by simp [Value.category]) ⟨⟨(Nat.le_of_ble_eq_true rfl), (Nat.le_of_ble_eq_true rfl)⟩, by omega, by omega⟩ (fun v54 X54 hp54 hE54 => ?_)))
            obtain ⟨rfl, hM1⟩ := hp54
            have hM := hM.tr hM1
            refine j_iret hF hR dX8_addNode_50 (by omega) (by omega) ?_
            refine PU ?_ (MX.of hM)
            unfold sp_addNode
            first | (refine (pif_t ⟨⟨c6, c15⟩, hok⟩).trans ((pif_f c41).trans ((pif_f c59).trans ?_)); unfold m_node; rw [if_neg c99]; rfl) | (refine (pif_t ⟨⟨c6, c15⟩, hok⟩).trans ((pif_f c41).trans ((pif_f c59).trans ?_)); unfold m_node; rw [if_pos c99]; rfl) | exact (pif_t ⟨⟨c6, c15⟩, hok⟩).trans ((pif_f c41).trans (pif_t c59)) | exact (pif_t ⟨⟨c6, c15⟩, hok⟩).trans (pif_t c41) | exact pif_f (fun h => c6 h.1.1) | exact pif_f (fun h => c15 h.1.2) | exact pif_f (fun h => h.2 ⟨c20, c24⟩)
        ·
          refine j_aload_n hF dX8_addNode_27 rfl (j_bipush hF dX8_addNode_28 (by decide) (j_callV hF (c_X8_fails hM.1 (by omega) hE) ms_X8_fails mv_X8_fails lk_RX8_52 dX8_addNode_30 hM.1.1 rfl rfl rfl (by simp [Value.category]) ⟨⟨(Nat.le_of_ble_eq_true rfl), (Nat.le_of_ble_eq_true rfl)⟩, by omega, by omega⟩ (fun v55 X55 hp55 hE55 => ?_)))
          obtain ⟨rfl, hM1⟩ := hp55
          have hM := hM.tr hM1
          refine j_iret hF hR dX8_addNode_33 (by omega) (by omega) ?_
          refine PU ?_ (MX.of hM)
          unfold sp_addNode
          first | (refine (pif_t ⟨⟨c6, c15⟩, hok⟩).trans ((pif_f c41).trans ((pif_f c59).trans ?_)); unfold m_node; rw [if_neg c99]; rfl) | (refine (pif_t ⟨⟨c6, c15⟩, hok⟩).trans ((pif_f c41).trans ((pif_f c59).trans ?_)); unfold m_node; rw [if_pos c99]; rfl) | exact (pif_t ⟨⟨c6, c15⟩, hok⟩).trans ((pif_f c41).trans (pif_t c59)) | exact (pif_t ⟨⟨c6, c15⟩, hok⟩).trans (pif_t c41) | exact pif_f (fun h => c6 h.1.1) | exact pif_f (fun h => c15 h.1.2) | exact pif_f (fun h => h.2 ⟨c20, c24⟩)

set_option maxRecDepth 100000 in
set_option maxHeartbeats 4000000 in
theorem c_X8_returns {X : Hp} {ad : Nat → Nat} {r pf : Int → Int} {sv : Int} {er sn lw rc wt : Int → Int} {wg : Int} {ls ac fi : Int → Int} {as : Int} {hh : Int64} (hM : MM X ad r pf sv er sn lw rc wt wg ls ac fi as hh) {fr to fb lt : Int} (hG : GI r) (hfr : 0 ≤ fr ∧ fr < 6) (hto : 0 ≤ to ∧ to < 6) (hfb : 0 ≤ fb ∧ fb ≤ 1) (hlt : 0 ≤ lt ∧ lt ≤ 2) : Ct yX8_returns cX8_returns 11 (some .boolean) 0 0 [.ref (ad 0), vi fr, vi to, vi fb, vi lt] X 0 0 (fun rv X' => rv = some (vi (bz (m_ret r fr to fb lt))) ∧ ∃ sn' lw', MG X X' ad r pf sv er sn' lw' rc wt wg ls ac fi as hh) := by
  refine Ct.of (by decide +kernel) [some (.ref (ad 0)), some (vi fr), some (vi to), some (vi fb), some (vi lt), none, none, none, none, none, none] rfl (Nat.le_of_ble_eq_true rfl) (fun φ hF hR => ?_)
  have hM := hM.g
  have g1 := hG.2.1
  have dfr := hG.dep fr hfr.1 hfr.2
  have dto := hG.dep to hto.1 hto.2
  have J20 : ¬ (fb = 1 ∧ r (5 + fr) = lt) → Jd φ X 0 0 20 [some (.ref (ad 0)), some (vi fr), some (vi to), some (vi fb), some (vi lt), none, none, none, none, none, none] [] := by
    intro hnb
    refine j_iconst hF dX8_returns_20 (j_istore hF dX8_returns_21 (Nat.le_of_ble_eq_true rfl) rfl ?_)
    have E86 : ∀ (Y : Hp) (sn' lw' : Int → Int), MG X Y ad r pf sv er sn' lw' rc wt wg ls ac fi as hh → RInv r to lt sn' lw' → RCl r lt sn' lw' (r 1) → Jd φ Y 0 0 86 [some (.ref (ad 0)), some (vi fr), some (vi to), some (vi fb), some (vi lt), some (vi 0), none, none, none, none, none] [] := by
      intro Y sn' lw' hM hI hC
      refine j_iload hF dX8_returns_86 rfl (j_if_eq hF 301 dX8_returns_88 (by decide) (by omega) (fun c88 => ?_) (fun c88 => absurd c88 (by omega)))
      refine j_aload_n hF dX8_returns_301 rfl (j_get hF hM.1.1 fl_RX8_21 dX8_returns_302 rfl (j_iload_n hF dX8_returns_305 rfl (j_iald hF hM.1.2.2.2.2.1 dX8_returns_306 (by omega) (fun ra1 rb1 => ?_))))
      refine j_iconst hF dX8_returns_307 (j_icmp_ne hF 325 dX8_returns_308 (by decide) (by omega) (fun c308 => ?_) (fun c308 => ?_))
      ·
        refine j_iconst hF dX8_returns_325 (j_zret hF hR (Or.inl rfl) dX8_returns_326 (by omega) (by omega) ?_)
        exact ⟨bz_r0 (fun h => by have q := (hI.fin hG hC hfr.1 hfr.2).mpr h.2; first | exact c308 q.1 | exact c318 q.2), _, _, hM⟩
      ·
        refine j_aload_n hF dX8_returns_311 rfl (j_get hF hM.1.1 fl_RX8_24 dX8_returns_312 rfl (j_iload_n hF dX8_returns_315 rfl (j_iald hF hM.1.2.2.2.2.2.1 dX8_returns_316 (by omega) (fun ra2 rb2 => ?_))))
        refine j_iconst hF dX8_returns_317 (j_icmp_ne hF 325 dX8_returns_318 (by decide) (by omega) (fun c318 => ?_) (fun c318 => ?_))
        ·
          refine j_iconst hF dX8_returns_325 (j_zret hF hR (Or.inl rfl) dX8_returns_326 (by omega) (by omega) ?_)
          exact ⟨bz_r0 (fun h => by have q := (hI.fin hG hC hfr.1 hfr.2).mpr h.2; first | exact c308 q.1 | exact c318 q.2), _, _, hM⟩
        ·
          refine j_iconst hF dX8_returns_321 (j_goto hF 326 dX8_returns_322 (by decide) (j_zret hF hR (Or.inr rfl) dX8_returns_326 (by omega) (by omega) ?_))
          exact ⟨bz_r1 ⟨hnb, (hI.fin hG hC hfr.1 hfr.2).mp ⟨c308, c318⟩⟩, _, _, hM⟩
    have L86 : ∀ (n : Nat) (Y : Hp) (sn' lw' : Int → Int), (13 - (s6 sn' + s6 lw')).toNat < n → MG X Y ad r pf sv er sn' lw' rc wt wg ls ac fi as hh → RInv r to lt sn' lw' → Jd φ Y 0 0 86 [some (.ref (ad 0)), some (vi fr), some (vi to), some (vi fb), some (vi lt), some (vi 1), none, none, none, none, none] [] := by
      intro n
      induction n with
      | zero => intro Y sn' lw' hfu; exact absurd hfu (by omega)
      | succ n ih =>
        intro Y sn' lw' hfu hM hI
        refine j_iload hF dX8_returns_86 rfl (j_if_eq hF 301 dX8_returns_88 (by decide) (by omega) (fun c88 => absurd c88 (by omega)) (fun c88 => ?_))
        refine j_iconst hF dX8_returns_91 (j_istore hF dX8_returns_92 (Nat.le_of_ble_eq_true rfl) rfl (j_iconst hF dX8_returns_94 (j_istore hF dX8_returns_95 (Nat.le_of_ble_eq_true rfl) rfl ?_)))
        obtain ⟨t0, et0⟩ : ∃ t, t = s6 sn' + s6 lw' := ⟨_, rfl⟩
        have L97 : ∀ (n2 : Nat) (k : Int) (Y : Hp) (z5 : Int) (sn' lw' : Int → Int), (r 1 - k).toNat < n2 → 0 ≤ k ∧ k ≤ r 1 → MG X Y ad r pf sv er sn' lw' rc wt wg ls ac fi as hh → RInv r to lt sn' lw' → (z5 = 0 ∨ z5 = 1) → (z5 = 0 → RCl r lt sn' lw' k) → (t0 ≤ s6 sn' + s6 lw' ∧ (z5 = 1 → t0 < s6 sn' + s6 lw')) → Jd φ Y 0 0 97 [some (.ref (ad 0)), some (vi fr), some (vi to), some (vi fb), some (vi lt), some (vi z5), some (vi k), none, none, none, none] [] := by
          intro n2
          induction n2 with
          | zero => intro k Y z5 sn' lw' hfu; exact absurd hfu (by omega)
          | succ n2 ih2 =>
            intro k Y z5 sn' lw' hfu hk hM hI hz hC ht
            refine j_iload hF dX8_returns_97 rfl (j_aload_n hF dX8_returns_99 rfl (j_get hF hM.1.1 fl_RX8_8 dX8_returns_100 rfl (j_iconst hF dX8_returns_103 (j_iald hF hM.1.2.1 dX8_returns_104 (by omega) (fun ra1 rb1 => ?_)))))
            refine j_icmp_ge hF 298 dX8_returns_105 (by decide) (by omega) (fun c105 => ?_) (fun c105 => ?_)
            ·
              refine j_goto hF 86 dX8_returns_298 (by decide) ?_
              refine j_unset 6 (j_unset 7 (j_unset 8 (j_unset 9 (j_unset 10 ?_))))
              rcases hz with rfl | rfl
              · exact E86 _ _ _ hM hI ((show k = r 1 by omega) ▸ hC rfl)
              · exact ih _ _ _ (by have := ht.2 rfl; have := hI.tot; omega) hM hI
            ·
              obtain ⟨⟨q1, q2⟩, ⟨q3, q4⟩, q5, q6⟩ := hG.ed k hk.1 (by omega)
              have d1 := hG.dep _ q1 q2
              have d2 := hG.dep _ q3 q4
              have J224 : Jd φ Y 0 0 224 [some (.ref (ad 0)), some (vi fr), some (vi to), some (vi fb), some (vi lt), some (vi z5), some (vi k), some (vi (r (17 + k))), some (vi (r (27 + k))), some (vi (bz (lt ≤ r (5 + r (17 + k)) ∧ lt ≤ r (5 + r (27 + k)) ∧ (r (37 + k) = 0 ∨ lt < r (5 + r (17 + k)))))), none] [vi (bz (lw' (r (17 + k)) = 1 ∨ r (5 + r (27 + k)) = lt))] := by
                refine j_istore hF dX8_returns_224 (Nat.le_of_ble_eq_true rfl) rfl (j_iload hF dX8_returns_226 rfl (j_b_eq hF 292 dX8_returns_228 (by decide) (fun c228 => ?_) (fun c228 => ?_)))
                ·
                  refine j_iinc hF dX8_returns_292 rfl (Nat.le_of_ble_eq_true rfl) rfl (j_goto hF 97 dX8_returns_295 (by decide) ?_)
                  refine j_unset 7 (j_unset 8 (j_unset 9 (j_unset 10 ?_)))
                  refine ih2 (k + 1) _ z5 _ _ (by omega) (by omega) hM hI hz (fun h => ?_) ht
                  intro e e1 e2 eo es
                  rcases (show e < k ∨ e = k by omega) with h3 | rfl
                  · exact hC h e e1 h3 eo es
                  · have w1 := bz_rg (lw' (r (17 + e)) = 1 ∨ r (5 + r (27 + e)) = lt)
                    first | exact absurd eo c228 | exact absurd es c239 | (refine ⟨by omega, fun hl => ?_⟩; rw [bz_t hl] at c261; omega)
                ·
                  refine j_aload_n hF dX8_returns_231 rfl (j_get hF hM.1.1 fl_RX8_21 dX8_returns_232 rfl (j_iload hF dX8_returns_235 rfl (j_iald hF hM.1.2.2.2.2.1 dX8_returns_237 (by omega) (fun ra1 rb1 => ?_))))
                  have s1 := hI.rg q1 q2
                  have s2 := hI.rg q3 q4
                  have w1 := bz_rg (lw' (r (17 + k)) = 1 ∨ r (5 + r (27 + k)) = lt)
                  refine j_iconst hF dX8_returns_238 (j_icmp_ne hF 292 dX8_returns_239 (by decide) (by omega) (fun c239 => ?_) (fun c239 => ?_))
                  ·
                    refine j_iinc hF dX8_returns_292 rfl (Nat.le_of_ble_eq_true rfl) rfl (j_goto hF 97 dX8_returns_295 (by decide) ?_)
                    refine j_unset 7 (j_unset 8 (j_unset 9 (j_unset 10 ?_)))
                    refine ih2 (k + 1) _ z5 _ _ (by omega) (by omega) hM hI hz (fun h => ?_) ht
                    intro e e1 e2 eo es
                    rcases (show e < k ∨ e = k by omega) with h3 | rfl
                    · exact hC h e e1 h3 eo es
                    · have w1 := bz_rg (lw' (r (17 + e)) = 1 ∨ r (5 + r (27 + e)) = lt)
                      first | exact absurd eo c228 | exact absurd es c239 | (refine ⟨by omega, fun hl => ?_⟩; rw [bz_t hl] at c261; omega)
                  ·
                    refine j_aload_n hF dX8_returns_242 rfl (j_get hF hM.1.1 fl_RX8_21 dX8_returns_243 rfl (j_iload hF dX8_returns_246 rfl (j_iald hF hM.1.2.2.2.2.1 dX8_returns_248 (by omega) (fun ra2 rb2 => ?_))))
                    refine j_if_eq hF 264 dX8_returns_249 (by decide) (by omega) (fun c249 => ?_) (fun c249 => ?_)
                    ·
                      refine j_aload_n hF dX8_returns_264 rfl (j_get hF hM.1.1 fl_RX8_21 dX8_returns_265 rfl (j_iload hF dX8_returns_268 rfl (j_iconst hF dX8_returns_270 (j_iast hF hM.1.2.2.2.2.1 dX8_returns_271 (by omega) (by omega) (j_nm (fun X3 eX3 => ?_))))))
                      have hM := hM.u_sn eX3
                      refine j_aload_n hF dX8_returns_272 rfl (j_get hF hM.1.1 fl_RX8_24 dX8_returns_273 rfl (j_iload hF dX8_returns_276 rfl (j_aload_n hF dX8_returns_278 rfl (j_get hF hM.1.1 fl_RX8_24 dX8_returns_279 rfl (j_iload hF dX8_returns_282 rfl ?_)))))
                      refine j_iald hF hM.1.2.2.2.2.2.1 dX8_returns_284 (by omega) (fun ra4 rb4 => ?_)
                      refine j_iload hF dX8_returns_285 rfl (j_ior hF (if lw' (r (27 + k)) = 1 ∨ bz (lw' (r (17 + k)) = 1 ∨ r (5 + r (27 + k)) = lt) = 1 then 1 else 0) (ja_or01 (by omega) (by omega)) dX8_returns_287 (j_iast hF hM.1.2.2.2.2.2.1 dX8_returns_288 (by omega) (by split <;> omega) (j_nm (fun X5 eX5 => ?_))))
                      have hM := hM.u_lw eX5
                      obtain ⟨hI2, hT⟩ := hI.step hG hk.1 (by omega) c228 c239 (by first | exact Or.inl c249 | exact Or.inr c261) rfl
                      refine j_iconst hF dX8_returns_289 (j_istore hF dX8_returns_290 (Nat.le_of_ble_eq_true rfl) rfl (j_iinc hF dX8_returns_292 rfl (Nat.le_of_ble_eq_true rfl) rfl (j_goto hF 97 dX8_returns_295 (by decide) ?_)))
                      refine j_unset 7 (j_unset 8 (j_unset 9 (j_unset 10 ?_)))
                      exact ih2 (k + 1) _ 1 _ _ (by omega) (by omega) hM hI2 (Or.inr rfl) (fun h => by omega) ⟨by omega, fun _ => by omega⟩
                    ·
                      refine j_aload_n hF dX8_returns_252 rfl (j_get hF hM.1.1 fl_RX8_24 dX8_returns_253 rfl (j_iload hF dX8_returns_256 rfl (j_iald hF hM.1.2.2.2.2.2.1 dX8_returns_258 (by omega) (fun ra6 rb6 => ?_))))
                      refine j_iload hF dX8_returns_259 rfl (j_icmp_ge hF 292 dX8_returns_261 (by decide) (by omega) (fun c261 => ?_) (fun c261 => ?_))
                      ·
                        refine j_iinc hF dX8_returns_292 rfl (Nat.le_of_ble_eq_true rfl) rfl (j_goto hF 97 dX8_returns_295 (by decide) ?_)
                        refine j_unset 7 (j_unset 8 (j_unset 9 (j_unset 10 ?_)))
                        refine ih2 (k + 1) _ z5 _ _ (by omega) (by omega) hM hI hz (fun h => ?_) ht
                        intro e e1 e2 eo es
                        rcases (show e < k ∨ e = k by omega) with h3 | rfl
                        · exact hC h e e1 h3 eo es
                        · have w1 := bz_rg (lw' (r (17 + e)) = 1 ∨ r (5 + r (27 + e)) = lt)
                          first | exact absurd eo c228 | exact absurd es c239 | (refine ⟨by omega, fun hl => ?_⟩; rw [bz_t hl] at c261; omega)
                      ·
                        refine j_aload_n hF dX8_returns_264 rfl (j_get hF hM.1.1 fl_RX8_21 dX8_returns_265 rfl (j_iload hF dX8_returns_268 rfl (j_iconst hF dX8_returns_270 (j_iast hF hM.1.2.2.2.2.1 dX8_returns_271 (by omega) (by omega) (j_nm (fun X7 eX7 => ?_))))))
                        have hM := hM.u_sn eX7
                        refine j_aload_n hF dX8_returns_272 rfl (j_get hF hM.1.1 fl_RX8_24 dX8_returns_273 rfl (j_iload hF dX8_returns_276 rfl (j_aload_n hF dX8_returns_278 rfl (j_get hF hM.1.1 fl_RX8_24 dX8_returns_279 rfl (j_iload hF dX8_returns_282 rfl ?_)))))
                        refine j_iald hF hM.1.2.2.2.2.2.1 dX8_returns_284 (by omega) (fun ra8 rb8 => ?_)
                        refine j_iload hF dX8_returns_285 rfl (j_ior hF (if lw' (r (27 + k)) = 1 ∨ bz (lw' (r (17 + k)) = 1 ∨ r (5 + r (27 + k)) = lt) = 1 then 1 else 0) (ja_or01 (by omega) (by omega)) dX8_returns_287 (j_iast hF hM.1.2.2.2.2.2.1 dX8_returns_288 (by omega) (by split <;> omega) (j_nm (fun X9 eX9 => ?_))))
                        have hM := hM.u_lw eX9
                        obtain ⟨hI2, hT⟩ := hI.step hG hk.1 (by omega) c228 c239 (by first | exact Or.inl c249 | exact Or.inr c261) rfl
                        refine j_iconst hF dX8_returns_289 (j_istore hF dX8_returns_290 (Nat.le_of_ble_eq_true rfl) rfl (j_iinc hF dX8_returns_292 rfl (Nat.le_of_ble_eq_true rfl) rfl (j_goto hF 97 dX8_returns_295 (by decide) ?_)))
                        refine j_unset 7 (j_unset 8 (j_unset 9 (j_unset 10 ?_)))
                        exact ih2 (k + 1) _ 1 _ _ (by omega) (by omega) hM hI2 (Or.inr rfl) (fun h => by omega) ⟨by omega, fun _ => by omega⟩
              have J192 : Jd φ Y 0 0 192 [some (.ref (ad 0)), some (vi fr), some (vi to), some (vi fb), some (vi lt), some (vi z5), some (vi k), some (vi (r (17 + k))), some (vi (r (27 + k))), none, none] [vi (bz (lt ≤ r (5 + r (17 + k)) ∧ lt ≤ r (5 + r (27 + k)) ∧ (r (37 + k) = 0 ∨ lt < r (5 + r (17 + k)))))] := by
                refine j_istore hF dX8_returns_192 (Nat.le_of_ble_eq_true rfl) rfl (j_aload_n hF dX8_returns_194 rfl (j_get hF hM.1.1 fl_RX8_24 dX8_returns_195 rfl (j_iload hF dX8_returns_198 rfl (j_iald hF hM.1.2.2.2.2.2.1 dX8_returns_200 (by omega) (fun ra1 rb1 => ?_)))))
                refine j_iconst hF dX8_returns_201 (j_icmp_eq hF 219 dX8_returns_202 (by decide) (by omega) (fun c202 => ?_) (fun c202 => ?_))
                ·
                  refine j_iconst hF dX8_returns_219 (j_goto hF 224 dX8_returns_220 (by decide) ?_)
                  have q := J224
                  rw [bz_t (p := lw' (r (17 + k)) = 1 ∨ r (5 + r (27 + k)) = lt) (by first | exact Or.inl c202 | exact Or.inr c216)] at q
                  exact q
                ·
                  refine j_aload_n hF dX8_returns_205 rfl (j_get hF hM.1.1 fl_RX8_8 dX8_returns_206 rfl (j_iconst hF dX8_returns_209 (j_iload hF dX8_returns_210 rfl (j_iadd hF dX8_returns_212 (j_iald hF hM.1.2.1 dX8_returns_213 (by omega) (fun ra2 rb2 => ?_))))))
                  refine j_iload hF dX8_returns_214 rfl (j_icmp_ne hF 223 dX8_returns_216 (by decide) (by omega) (fun c216 => ?_) (fun c216 => ?_))
                  ·
                    refine j_iconst hF dX8_returns_223 ?_
                    have q := J224
                    rw [bz_f (p := lw' (r (17 + k)) = 1 ∨ r (5 + r (27 + k)) = lt) (fun h => h.elim c202 c216)] at q
                    exact q
                  ·
                    refine j_iconst hF dX8_returns_219 (j_goto hF 224 dX8_returns_220 (by decide) ?_)
                    have q := J224
                    rw [bz_t (p := lw' (r (17 + k)) = 1 ∨ r (5 + r (27 + k)) = lt) (by first | exact Or.inl c202 | exact Or.inr c216)] at q
                    exact q
              refine j_aload_n hF dX8_returns_108 rfl (j_get hF hM.1.1 fl_RX8_8 dX8_returns_109 rfl (j_bipush hF dX8_returns_112 (by decide) (j_iload hF dX8_returns_114 rfl (j_iadd hF dX8_returns_116 (j_iald hF hM.1.2.1 dX8_returns_117 (by omega) (fun ra2 rb2 => ?_))))))
              refine j_istore hF dX8_returns_118 (Nat.le_of_ble_eq_true rfl) rfl (j_aload_n hF dX8_returns_120 rfl (j_get hF hM.1.1 fl_RX8_8 dX8_returns_121 rfl (j_bipush hF dX8_returns_124 (by decide) (j_iload hF dX8_returns_126 rfl (j_iadd hF dX8_returns_128 ?_)))))
              refine j_iald hF hM.1.2.1 dX8_returns_129 (by omega) (fun ra3 rb3 => ?_)
              refine j_istore hF dX8_returns_130 (Nat.le_of_ble_eq_true rfl) rfl (j_aload_n hF dX8_returns_132 rfl (j_get hF hM.1.1 fl_RX8_8 dX8_returns_133 rfl (j_iconst hF dX8_returns_136 (j_iload hF dX8_returns_137 rfl (j_iadd hF dX8_returns_139 ?_)))))
              refine j_iald hF hM.1.2.1 dX8_returns_140 (by omega) (fun ra4 rb4 => ?_)
              refine j_iload hF dX8_returns_141 rfl (j_icmp_lt hF 191 dX8_returns_143 (by decide) (by omega) (fun c143 => ?_) (fun c143 => ?_))
              ·
                refine j_iconst hF dX8_returns_191 ?_
                have q := J192
                rw [bz_f (fun h => by first | exact absurd h.1 (by omega) | exact absurd h.2.1 (by omega) | exact h.2.2.elim c170 (fun q => absurd q (by omega)))] at q
                exact q
              ·
                refine j_aload_n hF dX8_returns_146 rfl (j_get hF hM.1.1 fl_RX8_8 dX8_returns_147 rfl (j_iconst hF dX8_returns_150 (j_iload hF dX8_returns_151 rfl (j_iadd hF dX8_returns_153 (j_iald hF hM.1.2.1 dX8_returns_154 (by omega) (fun ra5 rb5 => ?_))))))
                refine j_iload hF dX8_returns_155 rfl (j_icmp_lt hF 191 dX8_returns_157 (by decide) (by omega) (fun c157 => ?_) (fun c157 => ?_))
                ·
                  refine j_iconst hF dX8_returns_191 ?_
                  have q := J192
                  rw [bz_f (fun h => by first | exact absurd h.1 (by omega) | exact absurd h.2.1 (by omega) | exact h.2.2.elim c170 (fun q => absurd q (by omega)))] at q
                  exact q
                ·
                  refine j_aload_n hF dX8_returns_160 rfl (j_get hF hM.1.1 fl_RX8_8 dX8_returns_161 rfl (j_bipush hF dX8_returns_164 (by decide) (j_iload hF dX8_returns_166 rfl (j_iadd hF dX8_returns_168 (j_iald hF hM.1.2.1 dX8_returns_169 (by omega) (fun ra6 rb6 => ?_))))))
                  refine j_if_eq hF 187 dX8_returns_170 (by decide) (by omega) (fun c170 => ?_) (fun c170 => ?_)
                  ·
                    refine j_iconst hF dX8_returns_187 (j_goto hF 192 dX8_returns_188 (by decide) ?_)
                    have q := J192
                    rw [bz_t (by first | exact ⟨c143, c157, Or.inl c170⟩ | exact ⟨c143, c157, Or.inr c184⟩)] at q
                    exact q
                  ·
                    refine j_aload_n hF dX8_returns_173 rfl (j_get hF hM.1.1 fl_RX8_8 dX8_returns_174 rfl (j_iconst hF dX8_returns_177 (j_iload hF dX8_returns_178 rfl (j_iadd hF dX8_returns_180 (j_iald hF hM.1.2.1 dX8_returns_181 (by omega) (fun ra7 rb7 => ?_))))))
                    refine j_iload hF dX8_returns_182 rfl (j_icmp_le hF 191 dX8_returns_184 (by decide) (by omega) (fun c184 => ?_) (fun c184 => ?_))
                    ·
                      refine j_iconst hF dX8_returns_191 ?_
                      have q := J192
                      rw [bz_f (fun h => by first | exact absurd h.1 (by omega) | exact absurd h.2.1 (by omega) | exact h.2.2.elim c170 (fun q => absurd q (by omega)))] at q
                      exact q
                    ·
                      refine j_iconst hF dX8_returns_187 (j_goto hF 192 dX8_returns_188 (by decide) ?_)
                      have q := J192
                      rw [bz_t (by first | exact ⟨c143, c157, Or.inl c170⟩ | exact ⟨c143, c157, Or.inr c184⟩)] at q
                      exact q
        exact L97 ((r 1).toNat + 1) 0 _ 0 sn' lw' (by omega) (by omega) hM hI (Or.inl rfl) (fun _ e e1 e2 => by omega) ⟨by omega, fun h => by omega⟩
    have L23 : ∀ (n : Nat) (k : Int) (Y : Hp) (sn' lw' : Int → Int), (6 - k).toNat < n → 0 ≤ k ∧ k ≤ 6 → MG X Y ad r pf sv er sn' lw' rc wt wg ls ac fi as hh → (∀ j, 0 ≤ j → j < k → sn' j = 0 ∧ lw' j = 0) → Jd φ Y 0 0 23 [some (.ref (ad 0)), some (vi fr), some (vi to), some (vi fb), some (vi lt), some (vi k), none, none, none, none, none] [] := by
      intro n
      induction n with
      | zero => intro k Y sn' lw' hfu; exact absurd hfu (by omega)
      | succ n ih =>
        intro k Y sn' lw' hfu hk hM hz
        refine j_iload hF dX8_returns_23 rfl (j_bipush hF dX8_returns_25 (by decide) (j_icmp_ge hF 52 dX8_returns_27 (by decide) (by omega) (fun c27 => ?_) (fun c27 => ?_)))
        ·
          refine j_unset 5 ?_
          refine j_aload_n hF dX8_returns_52 rfl (j_get hF hM.1.1 fl_RX8_21 dX8_returns_53 rfl (j_iload_n hF dX8_returns_56 rfl (j_iconst hF dX8_returns_57 (j_iast hF hM.1.2.2.2.2.1 dX8_returns_58 (by omega) (by omega) (j_nm (fun X1 eX1 => ?_))))))
          have hM := hM.u_sn eX1
          refine j_aload_n hF dX8_returns_59 rfl (j_get hF hM.1.1 fl_RX8_24 dX8_returns_60 rfl (j_iload_n hF dX8_returns_63 rfl (j_aload_n hF dX8_returns_64 rfl (j_get hF hM.1.1 fl_RX8_8 dX8_returns_65 rfl (j_iconst hF dX8_returns_68 ?_)))))
          refine j_iload_n hF dX8_returns_69 rfl (j_iadd hF dX8_returns_70 (j_iald hF hM.1.2.1 dX8_returns_71 (by omega) (fun ra2 rb2 => ?_)))
          refine j_iload hF dX8_returns_72 rfl (j_icmp_ne hF 81 dX8_returns_74 (by decide) (by omega) (fun c74 => ?_) (fun c74 => ?_))
          ·
            refine j_iconst hF dX8_returns_81 (j_iast hF hM.1.2.2.2.2.2.1 dX8_returns_82 (by omega) (by omega) (j_nm (fun X3 eX3 => ?_)))
            have hM := hM.u_lw eX3
            refine j_iconst hF dX8_returns_83 (j_istore hF dX8_returns_84 (Nat.le_of_ble_eq_true rfl) rfl ?_)
            refine L86 _ _ _ _ (Nat.lt_succ_self _) hM ⟨fun n n1 n2 => ?_, fu_s⟩
            by_cases hn : n = to
            · subst hn
              rw [fu_s, fu_s]
              first | exact ⟨Or.inr rfl, Or.inr rfl, fun _ => Pth.refl _ _ _, fun _ => ⟨rfl, n, hto, Pth.refl _ _ _, c74, Pth.refl _ _ _⟩, fun _ _ => rfl⟩ | exact ⟨Or.inr rfl, Or.inl rfl, fun _ => Pth.refl _ _ _, fun h => absurd h (by decide), fun _ h => absurd h c74⟩
            · rw [fu_n hn, fu_n hn, (hz n n1 (by omega)).1, (hz n n1 (by omega)).2]
              exact ⟨Or.inl rfl, Or.inl rfl, fun h => absurd h (by decide), fun h => absurd h (by decide), fun h => absurd h (by decide)⟩
          ·
            refine j_iconst hF dX8_returns_77 (j_goto hF 82 dX8_returns_78 (by decide) (j_iast hF hM.1.2.2.2.2.2.1 dX8_returns_82 (by omega) (by omega) (j_nm (fun X4 eX4 => ?_))))
            have hM := hM.u_lw eX4
            refine j_iconst hF dX8_returns_83 (j_istore hF dX8_returns_84 (Nat.le_of_ble_eq_true rfl) rfl ?_)
            refine L86 _ _ _ _ (Nat.lt_succ_self _) hM ⟨fun n n1 n2 => ?_, fu_s⟩
            by_cases hn : n = to
            · subst hn
              rw [fu_s, fu_s]
              first | exact ⟨Or.inr rfl, Or.inr rfl, fun _ => Pth.refl _ _ _, fun _ => ⟨rfl, n, hto, Pth.refl _ _ _, c74, Pth.refl _ _ _⟩, fun _ _ => rfl⟩ | exact ⟨Or.inr rfl, Or.inl rfl, fun _ => Pth.refl _ _ _, fun h => absurd h (by decide), fun _ h => absurd h c74⟩
            · rw [fu_n hn, fu_n hn, (hz n n1 (by omega)).1, (hz n n1 (by omega)).2]
              exact ⟨Or.inl rfl, Or.inl rfl, fun h => absurd h (by decide), fun h => absurd h (by decide), fun h => absurd h (by decide)⟩
        ·
          refine j_aload_n hF dX8_returns_30 rfl (j_get hF hM.1.1 fl_RX8_21 dX8_returns_31 rfl (j_iload hF dX8_returns_34 rfl (j_iconst hF dX8_returns_36 (j_iast hF hM.1.2.2.2.2.1 dX8_returns_37 (by omega) (by omega) (j_nm (fun X5 eX5 => ?_))))))
          have hM := hM.u_sn eX5
          refine j_aload_n hF dX8_returns_38 rfl (j_get hF hM.1.1 fl_RX8_24 dX8_returns_39 rfl (j_iload hF dX8_returns_42 rfl (j_iconst hF dX8_returns_44 (j_iast hF hM.1.2.2.2.2.2.1 dX8_returns_45 (by omega) (by omega) (j_nm (fun X6 eX6 => ?_))))))
          have hM := hM.u_lw eX6
          refine j_iinc hF dX8_returns_46 rfl (Nat.le_of_ble_eq_true rfl) rfl (j_goto hF 23 dX8_returns_49 (by decide) ?_)
          refine ih (k + 1) _ _ _ (by omega) (by omega) hM (fun j j1 j2 => ?_)
          by_cases hj : j = k
          · subst hj; rw [fu_s, fu_s]; exact ⟨rfl, rfl⟩
          · rw [fu_n hj, fu_n hj]; exact hz j j1 (by omega)
    exact L23 7 0 _ sn lw (by decide) (by decide) hM (fun j j1 j2 => by omega)
  refine j_iload_n hF dX8_returns_0 rfl (j_iconst hF dX8_returns_1 (j_icmp_ne hF 20 dX8_returns_2 (by decide) (by omega) (fun c2 => ?_) (fun c2 => ?_)))
  ·
    first | exact J20 (fun h => c15 h.2) | exact J20 (fun h => c2 h.1)
  ·
    refine j_aload_n hF dX8_returns_5 rfl (j_get hF hM.1.1 fl_RX8_8 dX8_returns_6 rfl (j_iconst hF dX8_returns_9 (j_iload_n hF dX8_returns_10 rfl (j_iadd hF dX8_returns_11 (j_iald hF hM.1.2.1 dX8_returns_12 (by omega) (fun ra1 rb1 => ?_))))))
    refine j_iload hF dX8_returns_13 rfl (j_icmp_ne hF 20 dX8_returns_15 (by decide) (by omega) (fun c15 => ?_) (fun c15 => ?_))
    ·
      first | exact J20 (fun h => c15 h.2) | exact J20 (fun h => c2 h.1)
    ·
      refine j_iconst hF dX8_returns_18 (j_zret hF hR (Or.inl rfl) dX8_returns_19 (by omega) (by omega) ?_)
      exact ⟨bz_r0 (fun h => h.1 ⟨c2, c15⟩), _, _, hM⟩

set_option maxRecDepth 100000 in
set_option maxHeartbeats 4000000 in
theorem c_X8_mayLead {X : Hp} {ad : Nat → Nat} {r pf : Int → Int} {sv : Int} {er sn lw rc wt : Int → Int} {wg : Int} {ls ac fi : Int → Int} {as : Int} {hh : Int64} (hM : MM X ad r pf sv er sn lw rc wt wg ls ac fi as hh) {fr to fb : Int} (hG : GI r) (hfr : 0 ≤ fr ∧ fr < 6) (hto : 0 ≤ to ∧ to < 6) (hfb : 0 ≤ fb ∧ fb ≤ 1) : Ct yX8_mayLead cX8_mayLead 7 (some .boolean) 1 30 [.ref (ad 0), vi fr, vi to, vi fb] X 0 0 (fun rv X' => rv = some (vi (bz (m_may r fr to fb))) ∧ ∃ sn' lw', MG X X' ad r pf sv er sn' lw' rc wt wg ls ac fi as hh) := by
  refine Ct.of (by decide +kernel) [some (.ref (ad 0)), some (vi fr), some (vi to), some (vi fb), none, none, none] rfl (Nat.le_of_ble_eq_true rfl) (fun φ hF hR => ?_)
  have hM := hM.g
  have dfr := hG.dep fr hfr.1 hfr.2
  have dto := hG.dep to hto.1 hto.2
  have J70 : ((¬ r 2 = 1 ∧ r (11 + to) = -1) ∧ -1 ≤ r (5 + to) - r (5 + fr) ∧ r (5 + to) - r (5 + fr) ≤ 1) → (fb = 1 → r (5 + to) - r (5 + fr) = 0 ∧ ¬ r (5 + to) = 0) → Jd φ X 0 0 70 [some (.ref (ad 0)), some (vi fr), some (vi to), some (vi fb), some (vi (r (5 + to) - r (5 + fr))), none, none] [] := by
    intro hc0 hfbc
    refine j_iconst hF dX8_mayLead_70 (j_istore hF dX8_mayLead_71 (Nat.le_of_ble_eq_true rfl) rfl (j_iconst hF dX8_mayLead_73 (j_istore hF dX8_mayLead_74 (Nat.le_of_ble_eq_true rfl) rfl ?_)))
    have L76 : ∀ (n : Nat) (k : Int) (Y : Hp) (sn' lw' : Int → Int), (4 - k).toNat < n → (0 ≤ k ∧ k ≤ 3 ∧ k ≤ r (5 + fr) + 1 ∧ k ≤ r (5 + to) + 1) → MG X Y ad r pf sv er sn' lw' rc wt wg ls ac fi as hh → Jd φ Y 0 0 76 [some (.ref (ad 0)), some (vi fr), some (vi to), some (vi fb), some (vi (r (5 + to) - r (5 + fr))), some (vi (bz (BA (fun l => ¬ m_ret r fr to fb l) k))), some (vi k)] [] := by
      intro n
      induction n with
      | zero => intro k Y sn' lw' hfu; exact absurd hfu (by omega)
      | succ n ih =>
        intro k Y sn' lw' hfu hk hM
        refine j_iload hF dX8_mayLead_76 rfl (j_aload_n hF dX8_mayLead_78 rfl (j_get hF hM.1.1 fl_RX8_8 dX8_mayLead_79 rfl (j_iconst hF dX8_mayLead_82 (j_iload_n hF dX8_mayLead_83 rfl (j_iadd hF dX8_mayLead_84 ?_)))))
        refine j_iald hF hM.1.2.1 dX8_mayLead_85 (by omega) (fun ra1 rb1 => ?_)
        refine j_icmp_gt hF 132 dX8_mayLead_86 (by decide) (by omega) (fun c86 => ?_) (fun c86 => ?_)
        ·
          refine j_iload hF dX8_mayLead_132 rfl (j_zret hF hR (bz_01 _) dX8_mayLead_134 (by omega) (by omega) ?_)
          exact ⟨sv_eq (bz_iff ⟨fun h => ⟨⟨hc0, hfbc⟩, fun l l1 l2 l3 => h l l1 (by omega)⟩, fun h l l1 l2 => h.2 l l1 (by omega) (by omega)⟩), _, _, hM⟩
        ·
          refine j_iload hF dX8_mayLead_89 rfl (j_aload_n hF dX8_mayLead_91 rfl (j_get hF hM.1.1 fl_RX8_8 dX8_mayLead_92 rfl (j_iconst hF dX8_mayLead_95 (j_iload_n hF dX8_mayLead_96 rfl (j_iadd hF dX8_mayLead_97 ?_)))))
          refine j_iald hF hM.1.2.1 dX8_mayLead_98 (by omega) (fun ra2 rb2 => ?_)
          refine j_icmp_gt hF 132 dX8_mayLead_99 (by decide) (by omega) (fun c99 => ?_) (fun c99 => ?_)
          ·
            refine j_iload hF dX8_mayLead_132 rfl (j_zret hF hR (bz_01 _) dX8_mayLead_134 (by omega) (by omega) ?_)
            exact ⟨sv_eq (bz_iff ⟨fun h => ⟨⟨hc0, hfbc⟩, fun l l1 l2 l3 => h l l1 (by omega)⟩, fun h l l1 l2 => h.2 l l1 (by omega) (by omega)⟩), _, _, hM⟩
          ·
            refine j_iload hF dX8_mayLead_102 rfl (j_b_eq hF 123 dX8_mayLead_104 (by decide) (fun cb => ?_) (fun cb => ?_))
            ·
              refine j_iconst hF dX8_mayLead_123 (j_istore hF dX8_mayLead_124 (Nat.le_of_ble_eq_true rfl) rfl (j_iinc hF dX8_mayLead_126 rfl (Nat.le_of_ble_eq_true rfl) rfl (j_goto hF 76 dX8_mayLead_129 (by decide) ?_)))
              have q := ih (k + 1) _ _ _ (by omega) (by omega) hM
              rw [bz_f (by first | exact BA.f cb | exact BA.n (by omega) (fun h => h c116))] at q
              exact q
            ·
              refine j_aload_n hF dX8_mayLead_107 rfl (j_iload_n hF dX8_mayLead_108 rfl (j_iload_n hF dX8_mayLead_109 rfl (j_iload_n hF dX8_mayLead_110 rfl (j_iload hF dX8_mayLead_111 rfl (j_callV hF (c_X8_returns hM.1 hG (by omega) (by omega) (by omega) (by omega)) ms_X8_returns mv_X8_returns lk_RX8_67 dX8_mayLead_113 hM.1.1 rfl rfl rfl (by simp [Value.category]) ⟨⟨(Nat.le_of_ble_eq_true rfl), (Nat.le_of_ble_eq_true rfl)⟩, by omega, by omega⟩ (fun v3 X3 hp3 hE3 => ?_))))))
              obtain ⟨rfl, sn3, lw3, hM1⟩ := hp3
              have hM := hM.tr hM1
              refine j_b_ne hF 123 dX8_mayLead_116 (by decide) (fun c116 => ?_) (fun c116 => ?_)
              ·
                refine j_iconst hF dX8_mayLead_123 (j_istore hF dX8_mayLead_124 (Nat.le_of_ble_eq_true rfl) rfl (j_iinc hF dX8_mayLead_126 rfl (Nat.le_of_ble_eq_true rfl) rfl (j_goto hF 76 dX8_mayLead_129 (by decide) ?_)))
                have q := ih (k + 1) _ _ _ (by omega) (by omega) hM
                rw [bz_f (by first | exact BA.f cb | exact BA.n (by omega) (fun h => h c116))] at q
                exact q
              ·
                refine j_iconst hF dX8_mayLead_119 (j_goto hF 124 dX8_mayLead_120 (by decide) (j_istore hF dX8_mayLead_124 (Nat.le_of_ble_eq_true rfl) rfl (j_iinc hF dX8_mayLead_126 rfl (Nat.le_of_ble_eq_true rfl) rfl (j_goto hF 76 dX8_mayLead_129 (by decide) ?_))))
                have q := ih (k + 1) _ _ _ (by omega) (by omega) hM
                rw [bz_t (BA.s cb c116)] at q
                exact q
    have q := L76 5 0 _ sn lw (by decide) (by omega) hM
    rw [bz_t (BA.z _)] at q
    exact q
  refine j_aload_n hF dX8_mayLead_0 rfl (j_get hF hM.1.1 fl_RX8_8 dX8_mayLead_1 rfl (j_iconst hF dX8_mayLead_4 (j_iload_n hF dX8_mayLead_5 rfl (j_iadd hF dX8_mayLead_6 (j_iald hF hM.1.2.1 dX8_mayLead_7 (by omega) (fun ra1 rb1 => ?_))))))
  refine j_aload_n hF dX8_mayLead_8 rfl (j_get hF hM.1.1 fl_RX8_8 dX8_mayLead_9 rfl (j_iconst hF dX8_mayLead_12 (j_iload_n hF dX8_mayLead_13 rfl (j_iadd hF dX8_mayLead_14 (j_iald hF hM.1.2.1 dX8_mayLead_15 (by omega) (fun ra2 rb2 => ?_))))))
  refine j_isub hF dX8_mayLead_16 (j_istore hF dX8_mayLead_17 (Nat.le_of_ble_eq_true rfl) rfl (j_aload_n hF dX8_mayLead_19 rfl (j_get hF hM.1.1 fl_RX8_8 dX8_mayLead_20 rfl (j_iconst hF dX8_mayLead_23 (j_iald hF hM.1.2.1 dX8_mayLead_24 (by omega) (fun ra3 rb3 => ?_))))))
  refine j_iconst hF dX8_mayLead_25 (j_icmp_eq hF 68 dX8_mayLead_26 (by decide) (by omega) (fun c26 => ?_) (fun c26 => ?_))
  ·
    refine j_iconst hF dX8_mayLead_68 (j_zret hF hR (Or.inl rfl) dX8_mayLead_69 (by omega) (by omega) ?_)
    refine ⟨bz_r0 (fun h => ?_), sn, lw, hM⟩
    first | exact absurd (h.1.2 c49).1 c54 | exact (h.1.2 c49).2 c65 | exact c44 h.1.1.2 | exact c34 h.1.1.1.2 | exact h.1.1.1.1 c26
  ·
    refine j_aload_n hF dX8_mayLead_29 rfl (j_iload_n hF dX8_mayLead_30 rfl (j_callV hF (c_X8_isInput hM.1 (by omega)) ms_X8_isInput mv_X8_isInput lk_RX8_63 dX8_mayLead_31 hM.1.1 rfl rfl rfl (by simp [Value.category]) ⟨⟨(Nat.le_of_ble_eq_true rfl), (Nat.le_of_ble_eq_true rfl)⟩, by omega, by omega⟩ (fun v4 X4 hp4 hE4 => ?_)))
    obtain ⟨rfl, he4⟩ := hp4; obtain rfl := he4.symm
    refine j_b_ne hF 68 dX8_mayLead_34 (by decide) (fun c34 => ?_) (fun c34 => ?_)
    ·
      refine j_iconst hF dX8_mayLead_68 (j_zret hF hR (Or.inl rfl) dX8_mayLead_69 (by omega) (by omega) ?_)
      refine ⟨bz_r0 (fun h => ?_), sn, lw, hM⟩
      first | exact absurd (h.1.2 c49).1 c54 | exact (h.1.2 c49).2 c65 | exact c44 h.1.1.2 | exact c34 h.1.1.1.2 | exact h.1.1.1.1 c26
    ·
      refine j_iload hF dX8_mayLead_37 rfl (j_iconst hF dX8_mayLead_39 (j_iconst hF dX8_mayLead_40 (j_callS hF (c_X8_within (by omega)) ms_X8_within mt_X8_within lk_RX8_43 dX8_mayLead_41 rfl rfl rfl (by simp [Value.category]) ⟨⟨(Nat.le_of_ble_eq_true rfl), (Nat.le_of_ble_eq_true rfl)⟩, by omega, by omega⟩ (fun v5 X5 hp5 hE5 => ?_))))
      obtain ⟨rfl, he5⟩ := hp5; obtain rfl := he5.symm
      refine j_b_eq hF 68 dX8_mayLead_44 (by decide) (fun c44 => ?_) (fun c44 => ?_)
      ·
        refine j_iconst hF dX8_mayLead_68 (j_zret hF hR (Or.inl rfl) dX8_mayLead_69 (by omega) (by omega) ?_)
        refine ⟨bz_r0 (fun h => ?_), sn, lw, hM⟩
        first | exact absurd (h.1.2 c49).1 c54 | exact (h.1.2 c49).2 c65 | exact c44 h.1.1.2 | exact c34 h.1.1.1.2 | exact h.1.1.1.1 c26
      ·
        refine j_iload_n hF dX8_mayLead_47 rfl (j_iconst hF dX8_mayLead_48 (j_icmp_ne hF 70 dX8_mayLead_49 (by decide) (by omega) (fun c49 => ?_) (fun c49 => ?_)))
        ·
          first | exact J70 ⟨⟨c26, Classical.not_not.mp c34⟩, c44⟩ (fun _ => ⟨c54, c65⟩) | exact J70 ⟨⟨c26, Classical.not_not.mp c34⟩, c44⟩ (fun h => absurd h c49)
        ·
          refine j_iload hF dX8_mayLead_52 rfl (j_if_ne hF 68 dX8_mayLead_54 (by decide) (by omega) (fun c54 => ?_) (fun c54 => ?_))
          ·
            refine j_iconst hF dX8_mayLead_68 (j_zret hF hR (Or.inl rfl) dX8_mayLead_69 (by omega) (by omega) ?_)
            refine ⟨bz_r0 (fun h => ?_), sn, lw, hM⟩
            first | exact absurd (h.1.2 c49).1 c54 | exact (h.1.2 c49).2 c65 | exact c44 h.1.1.2 | exact c34 h.1.1.1.2 | exact h.1.1.1.1 c26
          ·
            refine j_aload_n hF dX8_mayLead_57 rfl (j_get hF hM.1.1 fl_RX8_8 dX8_mayLead_58 rfl (j_iconst hF dX8_mayLead_61 (j_iload_n hF dX8_mayLead_62 rfl (j_iadd hF dX8_mayLead_63 (j_iald hF hM.1.2.1 dX8_mayLead_64 (by omega) (fun ra6 rb6 => ?_))))))
            refine j_if_ne hF 70 dX8_mayLead_65 (by decide) (by omega) (fun c65 => ?_) (fun c65 => ?_)
            ·
              first | exact J70 ⟨⟨c26, Classical.not_not.mp c34⟩, c44⟩ (fun _ => ⟨c54, c65⟩) | exact J70 ⟨⟨c26, Classical.not_not.mp c34⟩, c44⟩ (fun h => absurd h c49)
            ·
              refine j_iconst hF dX8_mayLead_68 (j_zret hF hR (Or.inl rfl) dX8_mayLead_69 (by omega) (by omega) ?_)
              refine ⟨bz_r0 (fun h => ?_), sn, lw, hM⟩
              first | exact absurd (h.1.2 c49).1 c54 | exact (h.1.2 c49).2 c65 | exact c44 h.1.1.2 | exact c34 h.1.1.1.2 | exact h.1.1.1.1 c26

set_option maxRecDepth 100000 in
set_option maxHeartbeats 4000000 in
theorem c_X8_addEdge {X : Hp} {ad : Nat → Nat} {r pf : Int → Int} {sv : Int} {er sn lw rc wt : Int → Int} {wg : Int} {ls ac fi : Int → Int} {as : Int} {hh : Int64} (hM : MM X ad r pf sv er sn lw rc wt wg ls ac fi as hh) {fr to fb N : Int} (hG : GI r) (hE : EI er) (hI : RI r N) (hN : N + 12 < 8192) (hm : RM2 r) (hs : 0 ≤ sv ∧ sv ≤ 3) (h_fr : -2147483648 ≤ fr ∧ fr ≤ 2147483647) (h_to : -2147483648 ≤ to ∧ to ≤ 2147483647) (h_fb : -2147483648 ≤ fb ∧ fb ≤ 2147483647) : Ct yX8_addEdge cX8_addEdge 4 (some .int) 2 56 [.ref (ad 0), vi fr, vi to, vi fb] X 0 0 (fun rv X' => rv = some (vi (sp_addEdge (r, pf, sv, er) fr to fb).1) ∧ MX X X' ad (sp_addEdge (r, pf, sv, er) fr to fb).2) := by
  refine Ct.of (by decide +kernel) [some (.ref (ad 0)), some (vi fr), some (vi to), some (vi fb)] rfl (Nat.le_of_ble_eq_true rfl) (fun φ hF hR => ?_)
  have hM := hM.g
  have g0 := hG.1
  have g1 := hG.2.1
  refine j_aload_n hF dX8_addEdge_0 rfl (j_iload_n hF dX8_addEdge_1 rfl (j_callV hF (c_X8_isNode hM.1 hG (by omega)) ms_X8_isNode mv_X8_isNode lk_RX8_71 dX8_addEdge_2 hM.1.1 rfl rfl rfl (by simp [Value.category]) ⟨⟨(Nat.le_of_ble_eq_true rfl), (Nat.le_of_ble_eq_true rfl)⟩, by omega, by omega⟩ (fun v1 X1 hp1 hE1 => ?_)))
  obtain ⟨rfl, he1⟩ := hp1; obtain rfl := he1.symm
  refine j_b_eq hF 25 dX8_addEdge_5 (by decide) (fun c5 => ?_) (fun c5 => ?_)
  ·
    refine j_aload_n hF dX8_addEdge_25 rfl (j_bipush hF dX8_addEdge_26 (by decide) (j_callV hF (c_X8_fails hM.1 (by omega) hE) ms_X8_fails mv_X8_fails lk_RX8_52 dX8_addEdge_28 hM.1.1 rfl rfl rfl (by simp [Value.category]) ⟨⟨(Nat.le_of_ble_eq_true rfl), (Nat.le_of_ble_eq_true rfl)⟩, by omega, by omega⟩ (fun v2 X2 hp2 hE2 => ?_)))
    obtain ⟨rfl, hM1⟩ := hp2
    have hM := hM.tr hM1
    refine j_iret hF hR dX8_addEdge_31 (by omega) (by omega) ?_
    refine PU ?_ (MX.of hM)
    unfold sp_addEdge
    first | (refine (pif_t ⟨⟨c5, c13⟩, c22⟩).trans ((pif_t c39).trans ((pif_f c57).trans ?_)); rw [show r 1 + 1 - 1 = r 1 by omega]; rfl) | exact (pif_t ⟨⟨c5, c13⟩, c22⟩).trans ((pif_t c39).trans (pif_t c57)) | exact (pif_t ⟨⟨c5, c13⟩, c22⟩).trans (pif_f c39) | exact pif_f (fun h => c5 h.1.1) | exact pif_f (fun h => c13 h.1.2) | exact pif_f (fun h => c22 h.2)
  ·
    refine j_aload_n hF dX8_addEdge_8 rfl (j_iload_n hF dX8_addEdge_9 rfl (j_callV hF (c_X8_isNode hM.1 hG (by omega)) ms_X8_isNode mv_X8_isNode lk_RX8_71 dX8_addEdge_10 hM.1.1 rfl rfl rfl (by simp [Value.category]) ⟨⟨(Nat.le_of_ble_eq_true rfl), (Nat.le_of_ble_eq_true rfl)⟩, by omega, by omega⟩ (fun v3 X3 hp3 hE3 => ?_)))
    obtain ⟨rfl, he3⟩ := hp3; obtain rfl := he3.symm
    refine j_b_eq hF 25 dX8_addEdge_13 (by decide) (fun c13 => ?_) (fun c13 => ?_)
    ·
      refine j_aload_n hF dX8_addEdge_25 rfl (j_bipush hF dX8_addEdge_26 (by decide) (j_callV hF (c_X8_fails hM.1 (by omega) hE) ms_X8_fails mv_X8_fails lk_RX8_52 dX8_addEdge_28 hM.1.1 rfl rfl rfl (by simp [Value.category]) ⟨⟨(Nat.le_of_ble_eq_true rfl), (Nat.le_of_ble_eq_true rfl)⟩, by omega, by omega⟩ (fun v4 X4 hp4 hE4 => ?_)))
      obtain ⟨rfl, hM1⟩ := hp4
      have hM := hM.tr hM1
      refine j_iret hF hR dX8_addEdge_31 (by omega) (by omega) ?_
      refine PU ?_ (MX.of hM)
      unfold sp_addEdge
      first | (refine (pif_t ⟨⟨c5, c13⟩, c22⟩).trans ((pif_t c39).trans ((pif_f c57).trans ?_)); rw [show r 1 + 1 - 1 = r 1 by omega]; rfl) | exact (pif_t ⟨⟨c5, c13⟩, c22⟩).trans ((pif_t c39).trans (pif_t c57)) | exact (pif_t ⟨⟨c5, c13⟩, c22⟩).trans (pif_f c39) | exact pif_f (fun h => c5 h.1.1) | exact pif_f (fun h => c13 h.1.2) | exact pif_f (fun h => c22 h.2)
    ·
      refine j_iload_n hF dX8_addEdge_16 rfl (j_iconst hF dX8_addEdge_17 (j_iconst hF dX8_addEdge_18 (j_callS hF (c_X8_within (by omega)) ms_X8_within mt_X8_within lk_RX8_43 dX8_addEdge_19 rfl rfl rfl (by simp [Value.category]) ⟨⟨(Nat.le_of_ble_eq_true rfl), (Nat.le_of_ble_eq_true rfl)⟩, by omega, by omega⟩ (fun v5 X5 hp5 hE5 => ?_))))
      obtain ⟨rfl, he5⟩ := hp5; obtain rfl := he5.symm
      refine j_b_ne hF 32 dX8_addEdge_22 (by decide) (fun c22 => ?_) (fun c22 => ?_)
      ·
        refine j_aload_n hF dX8_addEdge_32 rfl (j_iload_n hF dX8_addEdge_33 rfl (j_iload_n hF dX8_addEdge_34 rfl (j_iload_n hF dX8_addEdge_35 rfl (j_callV hF (c_X8_mayLead hM.1 hG (by omega) (by omega) (by omega)) ms_X8_mayLead mv_X8_mayLead lk_RX8_74 dX8_addEdge_36 hM.1.1 rfl rfl rfl (by simp [Value.category]) ⟨⟨(Nat.le_of_ble_eq_true rfl), (Nat.le_of_ble_eq_true rfl)⟩, by omega, by omega⟩ (fun v6 X6 hp6 hE6 => ?_)))))
        obtain ⟨rfl, sn6, lw6, hM1⟩ := hp6
        have hM := hM.tr hM1
        refine j_b_ne hF 49 dX8_addEdge_39 (by decide) (fun c39 => ?_) (fun c39 => ?_)
        ·
          refine j_aload_n hF dX8_addEdge_49 rfl (j_get hF hM.1.1 fl_RX8_8 dX8_addEdge_50 rfl (j_iconst hF dX8_addEdge_53 (j_iald hF hM.1.2.1 dX8_addEdge_54 (by omega) (fun ra7 rb7 => ?_))))
          refine j_bipush hF dX8_addEdge_55 (by decide) (j_icmp_ne hF 67 dX8_addEdge_57 (by decide) (by omega) (fun c57 => ?_) (fun c57 => ?_))
          ·
            refine j_aload_n hF dX8_addEdge_67 rfl (j_callV hF (c_X8_saves hM.1 (by omega)) ms_X8_saves mv_X8_saves lk_RX8_56 dX8_addEdge_68 hM.1.1 rfl rfl rfl (by simp [Value.category]) ⟨⟨(Nat.le_of_ble_eq_true rfl), (Nat.le_of_ble_eq_true rfl)⟩, by omega, by omega⟩ (fun v8 X8 hp8 hE8 => ?_))
            obtain ⟨rfl, hM1⟩ := hp8
            have hM := hM.tr hM1
            refine j_aload_n hF dX8_addEdge_71 rfl (j_get hF hM.1.1 fl_RX8_8 dX8_addEdge_72 rfl (j_bipush hF dX8_addEdge_75 (by decide) (j_aload_n hF dX8_addEdge_77 rfl (j_get hF hM.1.1 fl_RX8_8 dX8_addEdge_78 rfl (j_iconst hF dX8_addEdge_81 ?_)))))
            refine j_iald hF hM.1.2.1 dX8_addEdge_82 (by omega) (fun ra9 rb9 => ?_)
            refine j_iadd hF dX8_addEdge_83 (j_iload_n hF dX8_addEdge_84 rfl (j_iast hF hM.1.2.1 dX8_addEdge_85 (by omega) (by omega) (j_nm (fun X10 eX10 => ?_))))
            have hM := hM.u_r eX10
            refine j_aload_n hF dX8_addEdge_86 rfl (j_get hF hM.1.1 fl_RX8_8 dX8_addEdge_87 rfl (j_bipush hF dX8_addEdge_90 (by decide) (j_aload_n hF dX8_addEdge_92 rfl (j_get hF hM.1.1 fl_RX8_8 dX8_addEdge_93 rfl (j_iconst hF dX8_addEdge_96 ?_)))))
            refine j_iald hF hM.1.2.1 dX8_addEdge_97 (by omega) (fun ra11 rb11 => ?_)
            rw [fu_n (by omega)]
            refine j_iadd hF dX8_addEdge_98 (j_iload_n hF dX8_addEdge_99 rfl (j_iast hF hM.1.2.1 dX8_addEdge_100 (by omega) (by omega) (j_nm (fun X12 eX12 => ?_))))
            have hM := hM.u_r eX12
            refine j_aload_n hF dX8_addEdge_101 rfl (j_get hF hM.1.1 fl_RX8_8 dX8_addEdge_102 rfl (j_bipush hF dX8_addEdge_105 (by decide) (j_aload_n hF dX8_addEdge_107 rfl (j_get hF hM.1.1 fl_RX8_8 dX8_addEdge_108 rfl (j_iconst hF dX8_addEdge_111 ?_)))))
            refine j_iald hF hM.1.2.1 dX8_addEdge_112 (by omega) (fun ra13 rb13 => ?_)
            rw [fu_n (by omega), fu_n (by omega)]
            refine j_iadd hF dX8_addEdge_113 (j_iload_n hF dX8_addEdge_114 rfl (j_iast hF hM.1.2.1 dX8_addEdge_115 (by omega) (by omega) (j_nm (fun X14 eX14 => ?_))))
            have hM := hM.u_r eX14
            refine j_aload_n hF dX8_addEdge_116 rfl (j_get hF hM.1.1 fl_RX8_8 dX8_addEdge_117 rfl (j_iconst hF dX8_addEdge_120 (j_dup2 hF dX8_addEdge_121 rfl rfl (j_iald hF hM.1.2.1 dX8_addEdge_122 (by omega) (fun ra15 rb15 => ?_)))))
            rw [fu_n (by omega), fu_n (by omega), fu_n (by omega)]
            refine j_iconst hF dX8_addEdge_123 (j_iadd hF dX8_addEdge_124 (j_iast hF hM.1.2.1 dX8_addEdge_125 (by omega) (by omega) (j_nm (fun X16 eX16 => ?_))))
            have hM := hM.u_r eX16
            refine j_aload_n hF dX8_addEdge_126 rfl (j_get hF hM.1.1 fl_RX8_8 dX8_addEdge_127 rfl (j_iconst hF dX8_addEdge_130 (j_iald hF hM.1.2.1 dX8_addEdge_131 (by omega) (fun ra17 rb17 => ?_))))
            rw [fu_s]
            refine j_iconst hF dX8_addEdge_132 (j_isub hF dX8_addEdge_133 (j_iret hF hR dX8_addEdge_134 (by omega) (by omega) ?_))
            refine PU ?_ (MX.of hM)
            unfold sp_addEdge
            first | (refine (pif_t ⟨⟨c5, c13⟩, c22⟩).trans ((pif_t c39).trans ((pif_f c57).trans ?_)); rw [show r 1 + 1 - 1 = r 1 by omega]; rfl) | exact (pif_t ⟨⟨c5, c13⟩, c22⟩).trans ((pif_t c39).trans (pif_t c57)) | exact (pif_t ⟨⟨c5, c13⟩, c22⟩).trans (pif_f c39) | exact pif_f (fun h => c5 h.1.1) | exact pif_f (fun h => c13 h.1.2) | exact pif_f (fun h => c22 h.2)
          ·
            refine j_aload_n hF dX8_addEdge_60 rfl (j_bipush hF dX8_addEdge_61 (by decide) (j_callV hF (c_X8_fails hM.1 (by omega) hE) ms_X8_fails mv_X8_fails lk_RX8_52 dX8_addEdge_63 hM.1.1 rfl rfl rfl (by simp [Value.category]) ⟨⟨(Nat.le_of_ble_eq_true rfl), (Nat.le_of_ble_eq_true rfl)⟩, by omega, by omega⟩ (fun v18 X18 hp18 hE18 => ?_)))
            obtain ⟨rfl, hM1⟩ := hp18
            have hM := hM.tr hM1
            refine j_iret hF hR dX8_addEdge_66 (by omega) (by omega) ?_
            refine PU ?_ (MX.of hM)
            unfold sp_addEdge
            first | (refine (pif_t ⟨⟨c5, c13⟩, c22⟩).trans ((pif_t c39).trans ((pif_f c57).trans ?_)); rw [show r 1 + 1 - 1 = r 1 by omega]; rfl) | exact (pif_t ⟨⟨c5, c13⟩, c22⟩).trans ((pif_t c39).trans (pif_t c57)) | exact (pif_t ⟨⟨c5, c13⟩, c22⟩).trans (pif_f c39) | exact pif_f (fun h => c5 h.1.1) | exact pif_f (fun h => c13 h.1.2) | exact pif_f (fun h => c22 h.2)
        ·
          refine j_aload_n hF dX8_addEdge_42 rfl (j_bipush hF dX8_addEdge_43 (by decide) (j_callV hF (c_X8_fails hM.1 (by omega) hE) ms_X8_fails mv_X8_fails lk_RX8_52 dX8_addEdge_45 hM.1.1 rfl rfl rfl (by simp [Value.category]) ⟨⟨(Nat.le_of_ble_eq_true rfl), (Nat.le_of_ble_eq_true rfl)⟩, by omega, by omega⟩ (fun v19 X19 hp19 hE19 => ?_)))
          obtain ⟨rfl, hM1⟩ := hp19
          have hM := hM.tr hM1
          refine j_iret hF hR dX8_addEdge_48 (by omega) (by omega) ?_
          refine PU ?_ (MX.of hM)
          unfold sp_addEdge
          first | (refine (pif_t ⟨⟨c5, c13⟩, c22⟩).trans ((pif_t c39).trans ((pif_f c57).trans ?_)); rw [show r 1 + 1 - 1 = r 1 by omega]; rfl) | exact (pif_t ⟨⟨c5, c13⟩, c22⟩).trans ((pif_t c39).trans (pif_t c57)) | exact (pif_t ⟨⟨c5, c13⟩, c22⟩).trans (pif_f c39) | exact pif_f (fun h => c5 h.1.1) | exact pif_f (fun h => c13 h.1.2) | exact pif_f (fun h => c22 h.2)
      ·
        refine j_aload_n hF dX8_addEdge_25 rfl (j_bipush hF dX8_addEdge_26 (by decide) (j_callV hF (c_X8_fails hM.1 (by omega) hE) ms_X8_fails mv_X8_fails lk_RX8_52 dX8_addEdge_28 hM.1.1 rfl rfl rfl (by simp [Value.category]) ⟨⟨(Nat.le_of_ble_eq_true rfl), (Nat.le_of_ble_eq_true rfl)⟩, by omega, by omega⟩ (fun v20 X20 hp20 hE20 => ?_)))
        obtain ⟨rfl, hM1⟩ := hp20
        have hM := hM.tr hM1
        refine j_iret hF hR dX8_addEdge_31 (by omega) (by omega) ?_
        refine PU ?_ (MX.of hM)
        unfold sp_addEdge
        first | (refine (pif_t ⟨⟨c5, c13⟩, c22⟩).trans ((pif_t c39).trans ((pif_f c57).trans ?_)); rw [show r 1 + 1 - 1 = r 1 by omega]; rfl) | exact (pif_t ⟨⟨c5, c13⟩, c22⟩).trans ((pif_t c39).trans (pif_t c57)) | exact (pif_t ⟨⟨c5, c13⟩, c22⟩).trans (pif_f c39) | exact pif_f (fun h => c5 h.1.1) | exact pif_f (fun h => c13 h.1.2) | exact pif_f (fun h => c22 h.2)
