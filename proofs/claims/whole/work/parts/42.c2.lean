/-! the cycle rule on the class's rows -/
def orb (R x : Int) : Int := if R / pw x % 2 = 1 then R else R + pw x
def pcn (R : Int) : Int := R / pw 0 % 2 + R / pw 1 % 2 + R / pw 2 % 2 + R / pw 3 % 2 + R / pw 4 % 2 + R / pw 5 % 2
theorem in64 {R x : Int} {P : Int → Int → Prop} (h1 : 0 ≤ R) (h2 : R < 64) (h3 : 0 ≤ x) (h4 : x < 6) (h : ∀ (a : Fin 64) (b : Fin 6), P (a.val : Int) (b.val : Int)) : P R x := by
  have := h ⟨R.toNat, by omega⟩ ⟨x.toNat, by omega⟩
  simpa [Int.toNat_of_nonneg h1, Int.toNat_of_nonneg h3] using this
theorem orb_ior {R x : Int} (h1 : 0 ≤ R) (h2 : R < 64) (h3 : 0 ≤ x) (h4 : x < 6) : Int32.ofInt R ||| Int32.ofInt (pw x) = Int32.ofInt (orb R x) ∧ 0 ≤ orb R x ∧ orb R x < 64 :=
  in64 (P := fun R x => Int32.ofInt R ||| Int32.ofInt (pw x) = Int32.ofInt (orb R x) ∧ 0 ≤ orb R x ∧ orb R x < 64) h1 h2 h3 h4 (by decide +kernel)
theorem orb_bit {R x y : Int} (h1 : 0 ≤ R) (h2 : R < 64) (h3 : 0 ≤ x) (h4 : x < 6) (h5 : 0 ≤ y) (h6 : y < 6) : hb (orb R x) y ↔ hb R y ∨ y = x := by
  have key : ∀ (a : Fin 64) (b c : Fin 6), (orb (a.val : Int) (b.val : Int) / pw (c.val : Int) % 2 = 1 ↔ ((a.val : Int) / pw (c.val : Int) % 2 = 1 ∨ (c.val : Int) = (b.val : Int))) := by decide +kernel
  have := key ⟨R.toNat, by omega⟩ ⟨x.toNat, by omega⟩ ⟨y.toNat, by omega⟩
  simpa [Int.toNat_of_nonneg h1, Int.toNat_of_nonneg h3, Int.toNat_of_nonneg h5, hb] using this
theorem orb_pcn {R x : Int} (h1 : 0 ≤ R) (h2 : R < 64) (h3 : 0 ≤ x) (h4 : x < 6) : (hb R x → orb R x = R) ∧ (¬ hb R x → pcn (orb R x) = pcn R + 1) ∧ pcn R ≤ pcn (orb R x) :=
  in64 (P := fun R x => (R / pw x % 2 = 1 → orb R x = R) ∧ (¬ R / pw x % 2 = 1 → pcn (orb R x) = pcn R + 1) ∧ pcn R ≤ pcn (orb R x)) h1 h2 h3 h4 (by decide +kernel)
theorem pcn_full {R n x : Int} (h1 : 0 ≤ R) (h2 : R < 64) (h3 : 0 ≤ n) (h4 : n ≤ 6) (h5 : n ≤ pcn R) (hb0 : ∀ y, n ≤ y → y < 6 → ¬ hb R y) (h6 : 0 ≤ x) (h7 : x < n) : hb R x := by
  have key : ∀ (a : Fin 64) (b : Fin 7) (c : Fin 6), (b.val : Int) ≤ pcn (a.val : Int) → (∀ y : Fin 6, (b.val : Int) ≤ (y.val : Int) → ¬ (a.val : Int) / pw (y.val : Int) % 2 = 1) → (c.val : Int) < (b.val : Int) → (a.val : Int) / pw (c.val : Int) % 2 = 1 := by decide +kernel
  have := key ⟨R.toNat, by omega⟩ ⟨n.toNat, by omega⟩ ⟨x.toNat, by omega⟩ (by simpa [Int.toNat_of_nonneg h1, Int.toNat_of_nonneg h3] using h5) (fun y hy => by
    have hy' : n ≤ (y.val : Int) := by simpa [Int.toNat_of_nonneg h3] using hy
    have := hb0 y.val hy' (by have := y.isLt; omega)
    simpa [Int.toNat_of_nonneg h1, hb] using this) (by simpa [Int.toNat_of_nonneg h3, Int.toNat_of_nonneg h6] using h7)
  simpa [Int.toNat_of_nonneg h1, Int.toNat_of_nonneg h6, hb] using this
def CE (fd fe fk : Int → Int) (lt e : Int) : Prop := lt ≤ fd (fe e) ∧ ¬ (fk e = 3 ∧ fd (fe e) = lt)
/-- what is reached from n by one edge at least, of the first m edges -/
def CP (fd fs fe fk : Int → Int) (m n x : Int) : Prop := ∀ S : Int → Prop, (∀ e, 0 ≤ e → e < m → (fs e = n ∨ S (fs e)) → CE fd fe fk (fd n) e → S (fe e)) → S x
def CS (fd fs fe fk : Int → Int) (m n nc R : Int) : Prop := (0 ≤ R ∧ R < 64) ∧ ∀ y, 0 ≤ y → y < 6 → hb R y → y < nc ∧ CP fd fs fe fk m n y
def CC (fd fs fe fk : Int → Int) (n R k : Int) : Prop := ∀ e, 0 ≤ e → e < k → (fs e = n ∨ hb R (fs e)) → CE fd fe fk (fd n) e → hb R (fe e)
theorem CS.fin {fd fs fe fk : Int → Int} {m n nc R : Int} (h : CS fd fs fe fk m n nc R) (hn : 0 ≤ n ∧ n < nc) (hc : nc ≤ 6) (hC : CC fd fs fe fk n R m ∨ nc ≤ pcn R) : hb R n ↔ CP fd fs fe fk m n n := by
  constructor
  · intro g; exact (h.2 n hn.1 (by omega) g).2
  · intro g
    rcases hC with hC | hC
    · exact g (fun y => hb R y) (fun e e1 e2 e3 e4 => hC e e1 e2 e3 e4)
    · exact pcn_full h.1.1 h.1.2 (by omega) hc hC (fun y y1 y2 g2 => by have := (h.2 y (by omega) y2 g2).1; omega) hn.1 hn.2
theorem CS.step {fd fs fe fk : Int → Int} {m n nc R e : Int} (h : CS fd fs fe fk m n nc R) (he : 0 ≤ e ∧ e < m) (hfs : 0 ≤ fs e ∧ fs e < 6) (hfe : 0 ≤ fe e ∧ fe e < nc) (hc : nc ≤ 6) (h1 : fs e = n ∨ hb R (fs e)) (h2 : CE fd fe fk (fd n) e) : CS fd fs fe fk m n nc (orb R (fe e)) := by
  have o := orb_ior h.1.1 h.1.2 hfe.1 (show fe e < 6 by omega)
  refine ⟨o.2, fun y y1 y2 g => ?_⟩
  rcases (orb_bit h.1.1 h.1.2 hfe.1 (show fe e < 6 by omega) y1 y2).mp g with g | rfl
  · exact h.2 y y1 y2 g
  · refine ⟨hfe.2, fun S hS => hS e he.1 he.2 ?_ h2⟩
    rcases h1 with h1 | h1
    · exact Or.inl h1
    · exact Or.inr ((h.2 _ hfs.1 hfs.2 h1).2 S hS)
set_option maxRecDepth 100000 in
set_option maxHeartbeats 4000000 in
theorem c_X0_returnsWithoutFeedback {X : Hp} {b : Nat} {g d s e k : Nat} {nc ec : Int} {fd fs fe fk : Int → Int} (hM : GP X b g d s e k nc ec fd fs fe fk) {nd : Int} (hn6 : 0 ≤ nc ∧ nc ≤ 6) (hc : 0 ≤ ec ∧ ec ≤ 10) (hfs : ∀ j, 0 ≤ j → j < ec + 1 → 0 ≤ fs j ∧ fs j < nc) (hfe : ∀ j, 0 ≤ j → j < ec + 1 → 0 ≤ fe j ∧ fe j < nc) (hnd : 0 ≤ nd ∧ nd < nc) : Ct yX0_returnsWithoutFeedback cX0_returnsWithoutFeedback 6 (some .boolean) 1 23 [.ref g, vi nd] X 0 0 (fun rv X' => rv = some (vi (bz (CP fd fs fe fk (ec + 1) nd nd))) ∧ X' = X) := by
  refine Ct.of (by decide +kernel) [some (.ref g), some (vi nd), none, none, none, none] rfl (Nat.le_of_ble_eq_true rfl) (fun φ hF hR => ?_)
  have hM := hM.gg
  refine j_iconst hF dX0_returnsWithoutFeedback_0 (j_istore_n hF dX0_returnsWithoutFeedback_1 (Nat.le_of_ble_eq_true rfl) rfl (j_iconst hF dX0_returnsWithoutFeedback_2 (j_istore_n hF dX0_returnsWithoutFeedback_3 (Nat.le_of_ble_eq_true rfl) rfl ?_)))
  have L4 : ∀ (n : Nat) (k R : Int), (nc - k).toNat < n → 0 ≤ k ∧ k ≤ nc → CS fd fs fe fk (ec + 1) nd nc R → (CC fd fs fe fk nd R (ec + 1) ∨ k ≤ pcn R) → Jd φ X 0 0 4 [some (.ref g), some (vi nd), some (vi R), some (vi k), none, none] [] := by
    intro n
    induction n with
    | zero => intro k R hfu; exact absurd hfu (by omega)
    | succ n ih =>
      intro k R hfu hk hS hK
      refine j_iload_n hF dX0_returnsWithoutFeedback_4 rfl (j_aload_n hF dX0_returnsWithoutFeedback_5 rfl (j_get hF hM.1.1 fl_RX0_24 dX0_returnsWithoutFeedback_6 rfl (j_icmp_ge hF 100 dX0_returnsWithoutFeedback_9 (by decide) (by omega) (fun c9 => ?_) (fun c9 => ?_))))
      ·
        refine j_iload_n hF dX0_returnsWithoutFeedback_100 rfl (j_iload_n hF dX0_returnsWithoutFeedback_101 rfl (j_callS hF (c_X0_contains (by have := hS.1; omega) (by omega)) ms_X0_contains mt_X0_contains lk_RX0_31 dX0_returnsWithoutFeedback_102 rfl rfl rfl (by simp [Value.category]) ⟨⟨(Nat.le_of_ble_eq_true rfl), (Nat.le_of_ble_eq_true rfl)⟩, by omega, by omega⟩ (fun v1 X1 hp1 hE1 => ?_)))
        obtain ⟨rfl, he1⟩ := hp1; obtain rfl := he1.symm
        refine j_zret hF hR (bz_01 _) dX0_returnsWithoutFeedback_105 (by omega) (by omega) ?_
        have ek : k = nc := by omega
        exact ⟨sv_eq (bz_iff (hS.fin hnd hn6.2 (ek ▸ hK))), rfl⟩
      ·
        refine j_iconst hF dX0_returnsWithoutFeedback_12 (j_istore hF dX0_returnsWithoutFeedback_13 (Nat.le_of_ble_eq_true rfl) rfl ?_)
        obtain ⟨R0, eR0⟩ : ∃ z, z = R := ⟨_, rfl⟩
        rw [← eR0] at hK
        have L15 : ∀ (n2 : Nat) (j R : Int), (ec + 1 - j).toNat < n2 → 0 ≤ j ∧ j ≤ ec + 1 → CS fd fs fe fk (ec + 1) nd nc R → pcn R0 ≤ pcn R → (CC fd fs fe fk nd R j ∨ pcn R0 + 1 ≤ pcn R) → (CC fd fs fe fk nd R0 (ec + 1) → R = R0) → Jd φ X 0 0 15 [some (.ref g), some (vi nd), some (vi R), some (vi k), some (vi j), none] [] := by
          intro n2
          induction n2 with
          | zero => intro j R hfu; exact absurd hfu (by omega)
          | succ n2 ih2 =>
            intro j R hfu hj hS hP hD hQ
            refine j_iload hF dX0_returnsWithoutFeedback_15 rfl (j_aload_n hF dX0_returnsWithoutFeedback_17 rfl (j_get hF hM.1.1 fl_RX0_28 dX0_returnsWithoutFeedback_18 rfl (j_icmp_gt hF 94 dX0_returnsWithoutFeedback_21 (by decide) (by omega) (fun c21 => ?_) (fun c21 => ?_))))
            ·
              refine j_iinc hF dX0_returnsWithoutFeedback_94 rfl (Nat.le_of_ble_eq_true rfl) rfl (j_goto hF 4 dX0_returnsWithoutFeedback_97 (by decide) ?_)
              refine j_unset 4 (j_unset 5 ?_)
              refine ih (k + 1) _ (by omega) (by omega) hS ?_
              have ej : j = ec + 1 := by omega
              subst ej
              rcases hD with hD | hD
              · exact Or.inl hD
              · rcases hK with hK | hK
                · exact Or.inl (by rw [hQ hK]; exact hK)
                · exact Or.inr (by omega)
            ·
              have s1 := hfs j hj.1 (by omega)
              have s2 := hfe j hj.1 (by omega)
              have J54 : Jd φ X 0 0 54 [some (.ref g), some (vi nd), some (vi R), some (vi k), some (vi j), none] [vi (bz (fs j = nd ∨ hb R (fs j)))] := by
                refine j_istore hF dX0_returnsWithoutFeedback_54 (Nat.le_of_ble_eq_true rfl) rfl (j_iload hF dX0_returnsWithoutFeedback_56 rfl (j_b_eq hF 88 dX0_returnsWithoutFeedback_58 (by decide) (fun c58 => ?_) (fun c58 => ?_)))
                ·
                  have hlv : ¬ (fs j = nd ∨ hb R (fs j)) := c58
                  refine j_iinc hF dX0_returnsWithoutFeedback_88 rfl (Nat.le_of_ble_eq_true rfl) rfl (j_goto hF 15 dX0_returnsWithoutFeedback_91 (by decide) ?_)
                  refine j_unset 5 ?_
                  refine ih2 (j + 1) _ (by omega) (by omega) hS hP (hD.elim (fun hD => Or.inl (fun e e1 e2 e3 e4 => ?_)) Or.inr) hQ
                  rcases (show e < j ∨ e = j by omega) with q | rfl
                  · exact hD e e1 q e3 e4
                  · first | exact absurd e4 c73 | exact absurd e3 hlv
                ·
                  have hlv : fs j = nd ∨ hb R (fs j) := c58
                  refine j_aload_n hF dX0_returnsWithoutFeedback_61 rfl (j_iload hF dX0_returnsWithoutFeedback_62 rfl (j_aload_n hF dX0_returnsWithoutFeedback_64 rfl (j_get hF hM.1.1 fl_RX0_9 dX0_returnsWithoutFeedback_65 rfl (j_iload_n hF dX0_returnsWithoutFeedback_68 rfl (j_iald hF hM.1.2.1 dX0_returnsWithoutFeedback_69 (by omega) (fun ra1 rb1 => ?_))))))
                  refine j_callV hF (c_X0_staysWithoutFeedback hM.1 (by omega) (by omega) ⟨s2.1, by omega⟩) ms_X0_staysWithoutFeedback mv_X0_staysWithoutFeedback lk_RX0_56 dX0_returnsWithoutFeedback_70 hM.1.1 rfl rfl rfl (by simp [Value.category]) ⟨⟨(Nat.le_of_ble_eq_true rfl), (Nat.le_of_ble_eq_true rfl)⟩, by omega, by omega⟩ (fun v2 X2 hp2 hE2 => ?_)
                  obtain ⟨rfl, he2⟩ := hp2; obtain rfl := he2.symm
                  refine j_b_eq hF 88 dX0_returnsWithoutFeedback_73 (by decide) (fun c73 => ?_) (fun c73 => ?_)
                  ·
                    refine j_iinc hF dX0_returnsWithoutFeedback_88 rfl (Nat.le_of_ble_eq_true rfl) rfl (j_goto hF 15 dX0_returnsWithoutFeedback_91 (by decide) ?_)
                    refine j_unset 5 ?_
                    refine ih2 (j + 1) _ (by omega) (by omega) hS hP (hD.elim (fun hD => Or.inl (fun e e1 e2 e3 e4 => ?_)) Or.inr) hQ
                    rcases (show e < j ∨ e = j by omega) with q | rfl
                    · exact hD e e1 q e3 e4
                    · first | exact absurd e4 c73 | exact absurd e3 hlv
                  ·
                    refine j_iload_n hF dX0_returnsWithoutFeedback_76 rfl (j_iconst hF dX0_returnsWithoutFeedback_77 (j_aload_n hF dX0_returnsWithoutFeedback_78 rfl (j_get hF hM.1.1 fl_RX0_18 dX0_returnsWithoutFeedback_79 rfl (j_iload hF dX0_returnsWithoutFeedback_82 rfl (j_iald hF hM.1.2.2.2.1 dX0_returnsWithoutFeedback_84 (by omega) (fun ra3 rb3 => ?_))))))
                    have pw1 := pw_shl (E := fe j) s2.1 (by omega)
                    have oi := orb_ior hS.1.1 hS.1.2 s2.1 (show fe j < 6 by omega)
                    have op := orb_pcn hS.1.1 hS.1.2 s2.1 (show fe j < 6 by omega)
                    refine j_ishl hF (pw (fe j)) pw1.1 dX0_returnsWithoutFeedback_85 (j_ior hF (orb R (fe j)) oi.1 dX0_returnsWithoutFeedback_86 (j_istore_n hF dX0_returnsWithoutFeedback_87 (Nat.le_of_ble_eq_true rfl) rfl (j_iinc hF dX0_returnsWithoutFeedback_88 rfl (Nat.le_of_ble_eq_true rfl) rfl (j_goto hF 15 dX0_returnsWithoutFeedback_91 (by decide) ?_))))
                    refine j_unset 5 ?_
                    refine ih2 (j + 1) _ (by omega) (by omega) (hS.step ⟨hj.1, by omega⟩ ⟨s1.1, by omega⟩ s2 hn6.2 hlv c73) (Int.le_trans hP op.2.2) ?_ (fun q => ?_)
                    · rcases hD with hD | hD
                      · by_cases hbb : hb R (fe j)
                        · rw [op.1 hbb]
                          refine Or.inl (fun e e1 e2 e3 e4 => ?_)
                          rcases (show e < j ∨ e = j by omega) with q | rfl
                          · exact hD e e1 q e3 e4
                          · exact hbb
                        · exact Or.inr (by have := op.2.1 hbb; omega)
                      · exact Or.inr (by have := op.2.2; omega)
                    · have q2 := hQ q
                      have hbb : hb R (fe j) := by rw [q2]; exact q j hj.1 (by omega) (q2 ▸ hlv) c73
                      rw [op.1 hbb]; exact q2
              refine j_aload_n hF dX0_returnsWithoutFeedback_24 rfl (j_get hF hM.1.1 fl_RX0_15 dX0_returnsWithoutFeedback_25 rfl (j_iload hF dX0_returnsWithoutFeedback_28 rfl (j_iald hF hM.1.2.2.1 dX0_returnsWithoutFeedback_30 (by omega) (fun ra1 rb1 => ?_))))
              refine j_iload_n hF dX0_returnsWithoutFeedback_31 rfl (j_icmp_eq hF 49 dX0_returnsWithoutFeedback_32 (by decide) (by omega) (fun c32 => ?_) (fun c32 => ?_))
              ·
                refine j_iconst hF dX0_returnsWithoutFeedback_49 (j_goto hF 54 dX0_returnsWithoutFeedback_50 (by decide) ?_)
                have q := J54
                rw [bz_t (by first | exact Or.inl c32 | exact Or.inr c46)] at q
                exact q
              ·
                refine j_iload_n hF dX0_returnsWithoutFeedback_35 rfl (j_aload_n hF dX0_returnsWithoutFeedback_36 rfl (j_get hF hM.1.1 fl_RX0_15 dX0_returnsWithoutFeedback_37 rfl (j_iload hF dX0_returnsWithoutFeedback_40 rfl (j_iald hF hM.1.2.2.1 dX0_returnsWithoutFeedback_42 (by omega) (fun ra2 rb2 => ?_)))))
                refine j_callS hF (c_X0_contains (by have := hS.1; omega) (by omega)) ms_X0_contains mt_X0_contains lk_RX0_31 dX0_returnsWithoutFeedback_43 rfl rfl rfl (by simp [Value.category]) ⟨⟨(Nat.le_of_ble_eq_true rfl), (Nat.le_of_ble_eq_true rfl)⟩, by omega, by omega⟩ (fun v3 X3 hp3 hE3 => ?_)
                obtain ⟨rfl, he3⟩ := hp3; obtain rfl := he3.symm
                refine j_b_eq hF 53 dX0_returnsWithoutFeedback_46 (by decide) (fun c46 => ?_) (fun c46 => ?_)
                ·
                  refine j_iconst hF dX0_returnsWithoutFeedback_53 ?_
                  have q := J54
                  rw [bz_f (fun h => h.elim c32 c46)] at q
                  exact q
                ·
                  refine j_iconst hF dX0_returnsWithoutFeedback_49 (j_goto hF 54 dX0_returnsWithoutFeedback_50 (by decide) ?_)
                  have q := J54
                  rw [bz_t (by first | exact Or.inl c32 | exact Or.inr c46)] at q
                  exact q
        exact L15 ((ec + 1).toNat + 1) 0 R (by omega) (by omega) hS (by rw [eR0]; exact Int.le_refl _) (Or.inl (fun e e1 e2 => by omega)) (fun _ => eR0.symm)
  exact L4 (nc.toNat + 1) 0 0 (by omega) (by omega) ⟨by omega, fun y y1 y2 g => absurd g (by unfold hb; simp)⟩ (Or.inr (by decide))
