theorem MR.row {X : Hp} {b ml : Nat} {r r' : Int → Int} (h : MR X b ml r) (e : ∀ i, 47 ≤ i → i < 307 → r' i = r i) : MR X b ml r' := by
  obtain ⟨mz, mt, fz, ft, hM, h1, h2⟩ := h
  exact ⟨mz, mt, fz, ft, hM, fun j a b => by rw [e _ (by omega) (by omega)]; exact h1 j a b, fun j a b => by rw [e _ (by omega) (by omega)]; exact h2 j a b⟩
theorem GE.row2 {r r' : Int → Int} {nc ec : Int} {fd fs fe fk : Int → Int} (hG : GI r) (h : GE r nc ec fd fs fe fk) (e : ∀ i, 0 ≤ i → i < 47 → (i < 2 ∨ 5 ≤ i) → (i < 11 ∨ 17 ≤ i) → r' i = r i) : GE r' nc ec fd fs fe fk := by
  obtain ⟨⟨g1, g1'⟩, g2, g3⟩ := h
  have b1 := hG.2.1
  refine ⟨?_, ?_, ?_⟩
  · rw [e 0 (by omega) (by omega) (by omega) (by omega), e 1 (by omega) (by omega) (by omega) (by omega)]; exact ⟨g1, g1'⟩
  · intro j j1 j2; rw [e (5 + j) (by omega) (by omega) (by omega) (by omega)]; exact g2 j j1 j2
  · intro j j1 j2
    rw [e 1 (by omega) (by omega) (by omega) (by omega)] at j2
    have g := hG.ed j j1 (by omega)
    have ek : m_kind r' j = m_kind r j := by
      unfold m_kind
      rw [e (37 + j) (by omega) (by omega) (by omega) (by omega), e (27 + j) (by omega) (by omega) (by omega) (by omega), e (17 + j) (by omega) (by omega) (by omega) (by omega), e (5 + r (27 + j)) (by omega) (by omega) (by omega) (by omega), e (5 + r (17 + j)) (by omega) (by omega) (by omega) (by omega)]
    rw [e (17 + j) (by omega) (by omega) (by omega) (by omega), e (27 + j) (by omega) (by omega) (by omega) (by omega), ek]
    exact g3 j j1 j2
theorem SS.st {X X1 : Hp} {B st g ml ws va qa oe dc : Nat} {v q : Int → Nat} {r r' : Int → Int} (hG : GI r) (hA : AS r) (h : SS X B st g ml ws va qa oe dc v q r) (hF : FB B (B + 10) X X1) (hst : X1 st = some (B, ob 2 [vi (r' 2), vi (r' 3), vi (r' 4), .ref g, .ref ml, .ref ws, .ref va, .ref qa, .ref oe, .ref dc])) (e : ∀ i, 0 ≤ i → i < 2 ∨ 5 ≤ i → r' i = r i) : SS X1 B st g ml ws va qa oe dc v q r' := by
  obtain ⟨fv, fq, fo, fd, h1, ⟨d, s, e_, k, nc, ec, gd, gs, ge, gk, hg, hge⟩, h3, h4, h5, h6, h7, h8, h9, h10, h11⟩ := h
  refine ⟨fv, fq, fo, fd, hst, ⟨d, s, e_, k, nc, ec, gd, gs, ge, gk, hg.keep hF (by omega), hge.row2 hG (fun i i1 _ i2 _ => e i i1 i2)⟩, (h3.keep hF (by omega)).row (fun i i1 i2 => e i (by omega) (by omega)), (h4.keep hF (by omega)).row hA (fun i i1 i2 => e i (by omega) (by omega)), hF _ _ _ h5 (by omega), hF _ _ _ h6 (by omega), hF _ _ _ h7 (by omega), hF _ _ _ h8 (by omega), h9, ?_, h11.row (fun i i1 i2 => e i (by omega) (by omega))⟩
  intro j j1 j2; rw [e (11 + j) (by omega) (by omega)]; exact h10 j j1 j2
theorem SS.oe {X X1 : Hp} {B st g ml ws va qa oe dc : Nat} {v q : Int → Nat} {r r' : Int → Int} (hG : GI r) (hA : AS r) (h : SS X B st g ml ws va qa oe dc v q r) (hF : FB (B + 60) (B + 61) X X1) {fo' : Int → Int} (hoe : X1 oe = some (B + 60, ia 0 6 fo')) (ho : ∀ j, 0 ≤ j → j < 6 → fo' j = r' (11 + j)) (e : ∀ i, 0 ≤ i → i < 11 ∨ 17 ≤ i → r' i = r i) : SS X1 B st g ml ws va qa oe dc v q r' := by
  obtain ⟨fv, fq, fo, fd, h1, ⟨d, s, e_, k, nc, ec, gd, gs, ge, gk, hg, hge⟩, h3, h4, h5, h6, h7, h8, h9, h10, h11⟩ := h
  refine ⟨fv, fq, fo', fd, ?_, ⟨d, s, e_, k, nc, ec, gd, gs, ge, gk, hg.keep hF (by omega), hge.row2 hG (fun i i1 _ _ i2 => e i i1 i2)⟩, (h3.keep hF (by omega)).row (fun i i1 i2 => e i (by omega) (by omega)), (h4.keep hF (by omega)).row hA (fun i i1 i2 => e i (by omega) (by omega)), hF _ _ _ h5 (by omega), hF _ _ _ h6 (by omega), hoe, hF _ _ _ h8 (by omega), h9, ho, h11.row (fun i i1 i2 => e i (by omega) (by omega))⟩
  rw [e 2 (by omega) (by omega), e 3 (by omega) (by omega), e 4 (by omega) (by omega)]; exact hF _ _ _ h1 (by omega)
theorem SS.dc {X X1 : Hp} {B st g ml ws va qa oe dc : Nat} {v q : Int → Nat} {r r' : Int → Int} (hG : GI r) (hA : AS r) (h : SS X B st g ml ws va qa oe dc v q r) (hF : FB (B + 61) (B + 62) X X1) {fd' : Int → Int} (hdc : X1 dc = some (B + 61, ia 0 60 fd')) (hd : DR r' fd') (e : ∀ i, 0 ≤ i → i < 359 ∨ 6359 ≤ i → r' i = r i) : SS X1 B st g ml ws va qa oe dc v q r' := by
  obtain ⟨fv, fq, fo, fd, h1, ⟨d, s, e_, k, nc, ec, gd, gs, ge, gk, hg, hge⟩, h3, h4, h5, h6, h7, h8, h9, h10, h11⟩ := h
  refine ⟨fv, fq, fo, fd', ?_, ⟨d, s, e_, k, nc, ec, gd, gs, ge, gk, hg.keep hF (by omega), hge.row2 hG (fun i i1 _ _ _ => e i i1 (by omega))⟩, (h3.keep hF (by omega)).row (fun i i1 i2 => e i (by omega) (by omega)), (h4.keep hF (by omega)).row hA (fun i i1 i2 => e i (by omega) (by omega)), hF _ _ _ h5 (by omega), hF _ _ _ h6 (by omega), hF _ _ _ h7 (by omega), hdc, h9, ?_, hd⟩
  · rw [e 2 (by omega) (by omega), e 3 (by omega) (by omega), e 4 (by omega) (by omega)]; exact hF _ _ _ h1 (by omega)
  · intro j j1 j2; rw [e (11 + j) (by omega) (by omega)]; exact h10 j j1 j2
theorem m_pa_2 {r : Int → Int} {w o tg t : Int} (h : r 2 = 1) : ∀ n : Nat, m_pa w o tg t n r 2 = 1
  | 0 => h
  | n + 1 => by
    simp only [m_pa]
    split
    · unfold m_upd; exact fu_s
    · exact m_pa_2 h n
theorem fu_id (f : Int → Int) (i : Int) : fu f i (f i) = f := by
  funext j; unfold fu; split
  · next h => rw [h]
  · rfl
theorem fu_cm {f : Int → Int} {i j x y : Int} (h : ¬ i = j) : fu (fu f i x) j y = fu (fu f j y) i x := by
  funext k; unfold fu; split
  · next h1 => rw [if_neg (by omega)]
  · rfl
theorem DR.set {r fd : Int → Int} (h : DR r fd) {nd t : Int} (hn : 0 ≤ nd ∧ nd < 6) (ht : 0 ≤ t ∧ t ≤ 999) : DR (fu r (359 + 1000 * nd + t) 1) (fu fd (10 * nd + t / 100) (if t % 100 ≤ fd (10 * nd + t / 100) then fd (10 * nd + t / 100) else t % 100)) := by
  intro n2 ep a1 a2 a3 a4
  by_cases q : 10 * n2 + ep = 10 * nd + t / 100
  · have q1 : n2 = nd := by omega
    have q2 : ep = t / 100 := by omega
    subst q1; subst q2
    rw [fu_s]
    right
    rcases h n2 (t / 100) a1 a2 a3 a4 with ⟨l1, l2⟩ | ⟨l1, l2, l3⟩
    · rw [if_neg (by omega)]
      refine ⟨by omega, ?_, fun c c1 c2 c3 => ?_⟩
      · rw [show 359 + 1000 * n2 + (100 * (t / 100) + t % 100) = 359 + 1000 * n2 + t by omega, fu_s]
      · by_cases q3 : 100 * (t / 100) + c = t
        · omega
        · rw [fu_n (by omega)] at c3; exact absurd c3 (l2 c c1 c2)
    · by_cases q4 : t % 100 ≤ fd (10 * n2 + t / 100)
      · rw [if_pos q4]
        refine ⟨l1, ?_, fun c c1 c2 c3 => ?_⟩
        · by_cases q3 : 100 * (t / 100) + fd (10 * n2 + t / 100) = t
          · rw [q3, fu_s]
          · rw [fu_n (by omega)]; exact l2
        · by_cases q3 : 100 * (t / 100) + c = t
          · omega
          · rw [fu_n (by omega)] at c3; exact l3 c c1 c2 c3
      · rw [if_neg q4]
        refine ⟨by omega, ?_, fun c c1 c2 c3 => ?_⟩
        · rw [show 359 + 1000 * n2 + (100 * (t / 100) + t % 100) = 359 + 1000 * n2 + t by omega, fu_s]
        · by_cases q3 : 100 * (t / 100) + c = t
          · omega
          · rw [fu_n (by omega)] at c3; have := l3 c c1 c2 c3; omega
  · rw [fu_n q]
    rcases h n2 ep a1 a2 a3 a4 with ⟨l1, l2⟩ | ⟨l1, l2, l3⟩
    · refine Or.inl ⟨l1, fun c c1 c2 => ?_⟩
      rw [fu_n (by omega)]; exact l2 c c1 c2
    · refine Or.inr ⟨l1, ?_, fun c c1 c2 c3 => ?_⟩
      · rw [fu_n (by omega)]; exact l2
      · rw [fu_n (by omega)] at c3; exact l3 c c1 c2 c3
set_option maxRecDepth 100000 in
set_option maxHeartbeats 4000000 in
theorem c_X2_putMessages {X : Hp} {B st kap : Nat} {r : Int → Int} (hST : ST X B st kap r) {w o tg t N : Int} (hG : GI r) (hA : AS r) (hI : RI r N) (hm : RM2 r) (hN : N + 10 < 6144) (h2 : r 2 = 1) (hw : 0 ≤ w ∧ w ≤ 1) (ho : 0 ≤ o ∧ o < 1024) (htg : 0 ≤ tg ∧ tg ≤ 1) (ht : 0 ≤ t ∧ t ≤ 999) (hf : ∀ e, 0 ≤ e → e < r 1 → hb o e → r (47 + (10 * tg + e)) < 12) : Cv yX2_putMessages cX2_putMessages 6 none 7 167 [.ref st, vi w, vi o, vi tg, vi t] X (96772 - kap) (6 * (96772 - kap)) (fun rv X' k n => rv = none ∧ ∃ kap', ST X' B st kap' (m_pa w o tg t (r 1).toNat r) ∧ FB (B + 20) (B + 300) X X' ∧ kap ≤ kap' ∧ k ≤ kap' - kap ∧ n ≤ 6 * (kap' - kap)) := by
  refine Cv.of (by decide +kernel) [some (.ref st), some (vi w), some (vi o), some (vi tg), some (vi t), none] rfl (Nat.le_of_ble_eq_true rfl) (fun φ hF hR => ?_)
  have g0 := hG.2.1
  refine j_iconst hF dX2_putMessages_0 (j_istore hF dX2_putMessages_1 (Nat.le_of_ble_eq_true rfl) rfl ?_)
  have LL : ∀ (n : Nat) (Y : Hp) (kap1 kc0 ks0 : Nat) (k : Int), (r 1 - k).toNat < n → 0 ≤ k ∧ k ≤ r 1 → ST Y B st kap1 (m_pa w o tg t k.toNat r) → FB (B + 20) (B + 300) X Y → kap ≤ kap1 → kc0 ≤ kap1 - kap → ks0 ≤ 6 * (kap1 - kap) → Jd φ Y kc0 ks0 3 [some (.ref st), some (vi w), some (vi o), some (vi tg), some (vi t), some (vi k)] [] := by
    intro n
    induction n with
    | zero => intro Y kap1 kc0 ks0 k hfu; exact absurd hfu (by omega)
    | succ n ih =>
      intro Y kap1 kc0 ks0 k hfu hk hST1 hF1 hc0 hc1 hc2
      obtain ⟨i1, i2_, i3, i4⟩ := m_pa_inv hI hm (by omega) hw htg ht g0.2 hf k.toNat (by omega)
      have hk0 := hST1.le
      obtain ⟨g, ml, ws, va, qa, oe, dc, v, q, n, m_, z, fi, hS, hV, hQ, hk⟩ := id hST1
      obtain ⟨fv, fq, fo, fd, h1, ⟨d, s, e_, k_, nc, ec, gd, gs, ge, gk, hGP, ⟨g1, g1'⟩, -⟩, -⟩ := id hS
      rw [i2_ 1 (by omega) (by omega)] at g1'
      subst g1'
      refine j_iload hF dX2_putMessages_3 rfl (j_aload_n hF dX2_putMessages_5 rfl (j_get hF h1 fl_RX2_12 dX2_putMessages_6 rfl (j_get hF hGP.1 fl_RX2_71 dX2_putMessages_9 rfl (j_icmp_ge hF 40 dX2_putMessages_12 (by decide) (by omega) (fun c12 => ?_) (fun c12 => ?_)))))
      ·
        refine j_vretv hF hR dX2_putMessages_40 (by omega) (by omega) ?_
        have ek : k = r 1 := by omega
        subst ek
        exact ⟨rfl, kap1, hST1, hF1, hc0, hc1, hc2⟩
      ·
        refine j_iload_n hF dX2_putMessages_15 rfl (j_iload hF dX2_putMessages_16 rfl (j_callS hF (c_X0_contains ho (by omega)) ms_X0_contains mt_X0_contains lk_RX2_75 dX2_putMessages_18 rfl rfl rfl (by simp [Value.category]) ⟨⟨(Nat.le_of_ble_eq_true rfl), (Nat.le_of_ble_eq_true rfl)⟩, by omega, by omega⟩ (fun v1 X1 hp1 hE1 => ?_)))
        obtain ⟨rfl, he1⟩ := hp1; obtain rfl := he1.symm
        refine j_b_eq hF 34 dX2_putMessages_21 (by decide) (fun c21 => ?_) (fun c21 => ?_)
        ·
          have et : (k + 1).toNat = k.toNat + 1 := by omega
          have ek : ((k.toNat : Nat) : Int) = k := by omega
          obtain ⟨kap2, hkq⟩ : ∃ kap2, kap2 = kap1 := ⟨_, rfl⟩
          have hST2 : ST Y B st kap2 (m_pa w o tg t (k + 1).toNat r) := by
            rw [et, hkq]
            simp only [m_pa]
            rw [ek, if_neg (show ¬ o / pw k % 2 = 1 from c21)]
            exact hST1
          have hFF := hF1
          refine j_iinc hF dX2_putMessages_34 rfl (Nat.le_of_ble_eq_true rfl) rfl (j_goto hF 3 dX2_putMessages_37 (by decide) ?_)
          exact ih _ kap2 _ _ (k + 1) (by omega) (by omega) hST2 hFF (by omega) (by omega) (by omega)
        ·
          have et : (k + 1).toNat = k.toNat + 1 := by omega
          have ek : ((k.toNat : Nat) : Int) = k := by omega
          refine j_aload_n hF dX2_putMessages_24 rfl (j_iload_n hF dX2_putMessages_25 rfl (j_iload hF dX2_putMessages_26 rfl (j_iload_n hF dX2_putMessages_28 rfl (j_iload hF dX2_putMessages_29 rfl (j_callVv hF (c_X2_putMessage (N := N + k) hST1 (hG.eq (fun i i1 i2 i3 _ _ _ => i2_ i i3 (by omega))) (hA.row (fun i i1 i2 => i2_ i (by omega) (by omega))) (by rw [show N + k = N + (k.toNat : Int) by omega]; exact i1) (by omega) (m_pa_2 h2 _) hw (by omega) htg ht (by have q1 := i3 k (by omega) (by omega); have q2 := hf k (by omega) (by omega) c21; have q3 := hm (10 * tg + k) (by omega) (by omega); omega)) ms_X2_putMessage mv_X2_putMessage lk_RX2_79 dX2_putMessages_31 h1 rfl rfl rfl (by simp [Value.category]) ⟨⟨(Nat.le_of_ble_eq_true rfl), (Nat.le_of_ble_eq_true rfl)⟩, by omega, by omega⟩ (fun v2 X2 k2 n2 hp2 hE2 => ?_))))))
          obtain ⟨rfl, kap2, hST2, hF2, hk1, hk2, hk3⟩ := hp2
          have hk4 := hST2.le
          have hFF := hF1.trans hF2
          have hST2 : ST X2 B st kap2 (m_pa w o tg t (k + 1).toNat r) := by
            rw [et]
            simp only [m_pa]
            rw [ek, if_pos (show o / pw k % 2 = 1 from c21)]
            exact hST2
          refine j_iinc hF dX2_putMessages_34 rfl (Nat.le_of_ble_eq_true rfl) rfl (j_goto hF 3 dX2_putMessages_37 (by decide) ?_)
          exact ih _ kap2 _ _ (k + 1) (by omega) (by omega) hST2 hFF (by omega) (by omega) (by omega)
  exact LL ((r 1).toNat + 1) _ kap 0 0 0 (by omega) (by omega) hST (FB.refl _ _ X) (by omega) (by omega) (by omega)

set_option maxRecDepth 100000 in
set_option maxHeartbeats 4000000 in
theorem c_X2_isInput {X : Hp} {B st kap : Nat} {r : Int → Int} (hST : ST X B st kap r) {nd : Int} (hO : EO r) (hn : 0 ≤ nd ∧ nd < 6) : Ct yX2_isInput cX2_isInput 2 (some .boolean) 0 0 [.ref st, vi nd] X 0 0 (fun rv X' => rv = some (vi (bz (¬ r (11 + nd) = -1))) ∧ X' = X) := by
  refine Ct.of (by decide +kernel) [some (.ref st), some (vi nd)] rfl (Nat.le_of_ble_eq_true rfl) (fun φ hF hR => ?_)
  obtain ⟨g, ml, ws, va, qa, oe, dc, v, q, n, m_, z, fi, hS, hV, hQ, hk⟩ := hST
  obtain ⟨fv, fq, fo, fd, h1, hGR, hMR, hHR, h5, h6, h7, h8, h9, h10, h11⟩ := id hS
  refine j_aload_n hF dX2_isInput_0 rfl (j_get hF h1 fl_RX2_44 dX2_isInput_1 rfl (j_iload_n hF dX2_isInput_4 rfl (j_iald hF h7 dX2_isInput_5 (by omega) (fun ra1 rb1 => ?_))))
  have e1 := h10 nd hn.1 hn.2
  have e2 := hO nd hn.1 hn.2
  refine j_iconst hF dX2_isInput_6 (j_icmp_eq hF 14 dX2_isInput_7 (by decide) (by omega) (fun c7 => ?_) (fun c7 => ?_))
  ·
    refine j_iconst hF dX2_isInput_14 (j_zret hF hR (Or.inl rfl) dX2_isInput_15 (by omega) (by omega) ?_)
    exact ⟨bz_r0 (by omega), rfl⟩
  ·
    refine j_iconst hF dX2_isInput_10 (j_goto hF 15 dX2_isInput_11 (by decide) (j_zret hF hR (Or.inr rfl) dX2_isInput_15 (by omega) (by omega) ?_))
    exact ⟨bz_r1 (by omega), rfl⟩

