def LDv (r ut : Int → Int) (w nd i b : Int) : Prop := (b = -1 ∧ ∀ j, 0 ≤ j → j < i → ut (12 * w + j) / 1000 = nd → ¬ onF r w (ut (12 * w + j))) ∨ ((0 ≤ b ∧ b ≤ 999) ∧ (∃ j, 0 ≤ j ∧ j < i ∧ ut (12 * w + j) / 1000 = nd ∧ ut (12 * w + j) % 1000 = b ∧ onF r w (ut (12 * w + j))) ∧ ∀ j, 0 ≤ j → j < i → ut (12 * w + j) / 1000 = nd → onF r w (ut (12 * w + j)) → b ≤ ut (12 * w + j) % 1000)
theorem LDv.rg {r ut : Int → Int} {w nd i b : Int} (h : LDv r ut w nd i b) : -1 ≤ b ∧ b ≤ 999 := by
  rcases h with h | h
  · omega
  · omega
theorem LDv.skip {r ut : Int → Int} {w nd i b : Int} (h : LDv r ut w nd i b) (g : ut (12 * w + i) / 1000 = nd → onF r w (ut (12 * w + i)) → ¬ b = -1 ∧ b ≤ ut (12 * w + i) % 1000) : LDv r ut w nd (i + 1) b := by
  rcases h with ⟨h1, h2⟩ | ⟨h1, ⟨j, j1, j2, j3⟩, h3⟩
  · refine Or.inl ⟨h1, fun j j1 j2 j3 j4 => ?_⟩
    by_cases q : j = i
    · rw [q] at j3 j4; exact (g j3 j4).1 h1
    · exact h2 j j1 (by omega) j3 j4
  · refine Or.inr ⟨h1, ⟨j, j1, by omega, j3⟩, fun j j1 j2 j3 j4 => ?_⟩
    by_cases q : j = i
    · rw [q] at j3 j4; rw [q]; exact (g j3 j4).2
    · exact h3 j j1 (by omega) j3 j4
theorem LDv.take {r ut : Int → Int} {w nd i b : Int} (h : LDv r ut w nd i b) (h0 : 0 ≤ i) (g1 : ut (12 * w + i) / 1000 = nd) (g2 : onF r w (ut (12 * w + i))) (g3 : b = -1 ∨ ut (12 * w + i) % 1000 < b) : LDv r ut w nd (i + 1) (ut (12 * w + i) % 1000) := by
  refine Or.inr ⟨by omega, ⟨i, h0, by omega, g1, rfl, g2⟩, fun j j1 j2 j3 j4 => ?_⟩
  by_cases q : j = i
  · rw [q]; exact Int.le_refl _
  · rcases h with ⟨h1, h2⟩ | ⟨h1, h2, h3⟩
    · exact absurd j4 (h2 j j1 (by omega) j3)
    · have := h3 j j1 (by omega) j3 j4; omega
theorem LDv.fin {r ut : Int → Int} {w nd b : Int} (h : LDv r ut w nd (r (307 + w)) b) (hH : HS r ut w) (hA : AS r) (hT : AT r) (hw : 0 ≤ w ∧ w ≤ 1) : NX r w nd (12 * w + r (307 + w)) b := by
  have a1 := hA w hw.1 (by omega)
  have fw : ∀ i, 0 ≤ i → i < r (307 + w) → ∃ j, 0 ≤ j ∧ j < r (307 + w) ∧ 1000 * r (309 + (12 * w + j)) + r (333 + (12 * w + j)) = ut (12 * w + i) := fun i i1 i2 => by
    obtain ⟨j, j1, j2, j3⟩ := bag_mem (a := fun i => ut (12 * w + i)) (b := fun i => 1000 * r (309 + (12 * w + i)) + r (333 + (12 * w + i))) hH i1 (by omega)
    exact ⟨j, j1, by omega, j3⟩
  have bw : ∀ i, 0 ≤ i → i < r (307 + w) → ∃ j, 0 ≤ j ∧ j < r (307 + w) ∧ ut (12 * w + j) = 1000 * r (309 + (12 * w + i)) + r (333 + (12 * w + i)) := fun i i1 i2 => by
    obtain ⟨j, j1, j2, j3⟩ := bag_mem (a := fun i => 1000 * r (309 + (12 * w + i)) + r (333 + (12 * w + i))) (b := fun i => ut (12 * w + i)) (fun x => (hH x).symm) i1 (by omega)
    exact ⟨j, j1, by omega, j3⟩
  have key : ∀ x, 12 * w ≤ x → x < 12 * w + r (307 + w) → r (309 + x) = nd → ∃ j, 0 ≤ j ∧ j < r (307 + w) ∧ ut (12 * w + j) = 1000 * nd + r (333 + x) := fun x x1 x2 x3 => by
    obtain ⟨j, j1, j2, j3⟩ := bw (x - 12 * w) (by omega) (by omega)
    rw [show 12 * w + (x - 12 * w) = x by omega, x3] at j3
    exact ⟨j, j1, j2, j3⟩
  rcases h with ⟨h1, h2⟩ | ⟨h1, ⟨i, i1, i2, i3, i4, i5⟩, h3⟩
  · refine Or.inl ⟨h1, fun x x1 x2 x3 x4 => ?_⟩
    obtain ⟨j, j1, j2, j3⟩ := key x x1 x2 x3
    have t1 := hT x (by omega) (by omega)
    exact h2 j j1 j2 (by omega) (by rw [j3]; exact x4)
  · refine Or.inr ⟨h1, ?_, fun x x1 x2 x3 x4 => ?_⟩
    · obtain ⟨j, j1, j2, j3⟩ := fw i i1 i2
      have t1 := hT (12 * w + j) (by omega) (by omega)
      refine ⟨12 * w + j, by omega, by omega, by omega, by omega, ?_⟩
      have e : 1000 * nd + r (333 + (12 * w + j)) = ut (12 * w + i) := by omega
      rw [e]; exact i5
    · obtain ⟨j, j1, j2, j3⟩ := key x x1 x2 x3
      have t1 := hT x (by omega) (by omega)
      have := h3 j j1 j2 (by omega) (by rw [j3]; exact x4)
      omega
theorem oF_0 {r : Int → Int} {w : Int} : ∀ x, 0 ≤ x → x < 16000 → (fun x => r (6359 + 16000 * w + x)) x = 0 → oF r w x = 0 := fun x _ _ h => bz_f (fun q => by have := q.1; have h2 : r (6359 + 16000 * w + x) = 0 := h; omega)
theorem VI.fr {n : Nat} {sz : Int} {fs fv : Int → Int} {r : Int → Int} {w : Int} (h : VI n sz fs fv (fun x => r (6359 + 16000 * w + x))) {i : Nat} (hi : (i : Int) < sz) : cf (fun j => oF r w (fs j)) i = cf (oF r w) (fs i).toNat := by
  have q := h.sum (g := oF r w) oF_0 i (by omega)
  rw [if_pos hi] at q
  exact q
theorem VI.fr0 {n : Nat} {sz x v : Int} {fs fv : Int → Int} {r : Int → Int} {w : Int} (h : VI n sz fs fv (fun x => r (6359 + 16000 * w + x))) (hN : ∀ i : Int, 0 ≤ i → i < sz → onF r w (fs i) → ¬ cf (fun j => oF r w (fs j)) i.toNat = x) (hv : v = -1) : FA r w x v := by
  refine Or.inl ⟨hv, fun k k1 k2 k3 k4 => ?_⟩
  obtain ⟨i, i1, i2, i3⟩ := h.2.2.2 k k1 k2 (by have := k3.1; show ¬ r (6359 + 16000 * w + k) = 0; omega)
  have q := h.fr (i := i.toNat) (by omega)
  rw [show ((i.toNat : Nat) : Int) = i by omega, i3] at q
  exact hN i i1 i2 (by rw [i3]; exact k3) (by rw [q]; exact k4)
set_option maxRecDepth 100000 in
set_option maxHeartbeats 4000000 in
theorem c_X7_leastDeliverable {X : Hp} {pt ea sa y st B g ml ws va qa oe dc : Nat} {sv : Int} {v q n : Int → Nat} {z r : Int → Int} (hpt : X pt = some (0, ob 7 [.ref ea, .ref sa, .ref y, .ref st, vi sv])) (hS : SS X B st g ml ws va qa oe dc v q r) (hV : VV X B v n z r) (hLB : LB B) (hGV : GV r) (hA : AS r) (hT : AT r) (hAP : AP_ r) (hvd : VDv r) {mk : Nat} {gn : Int} (hWR : WR X 100 y mk gn r) (hgn : gn ≤ 100000) {w nd : Int} (hw : 0 ≤ w ∧ w ≤ 1) (hnd : 0 ≤ nd ∧ nd < 6) : Cv yX7_leastDeliverable cX7_leastDeliverable 10 (some .int) 6 146 [.ref pt, vi w, vi nd] X (4 * (1 - mk)) (30400 * (1 - mk)) (fun rv X' kk nn => rv = some (vi (nxt r w nd)) ∧ ∃ mk', mk ≤ mk' ∧ WR X' 100 y mk' gn r ∧ FB 100 110 X X' ∧ kk ≤ 4 * (mk' - mk) ∧ nn ≤ 30400 * (mk' - mk)) := by
  refine Cv.of (by decide +kernel) [some (.ref pt), some (vi w), some (vi nd), none, none, none, none, none, none, none] rfl (Nat.le_of_ble_eq_true rfl) (fun φ hF hR => ?_)
  obtain ⟨av, aq, ao, af, h1, ⟨ga, gb, gc, gd, nc, ec, jd, js, je, jk, hGP, hGE⟩, ⟨mz, mt, yz, yt, hMP, x1, x2⟩, ⟨wz, wt, uz, ut, hWP, x3⟩, h5, h6, h7, h8, h9, h10, h11⟩ := id hS
  have hLB0 := hLB
  unfold LB at hLB
  have b0 := hGV.1.1
  have a1 := hA w hw.1 (by omega)
  obtain ⟨u1, u2⟩ := x3 w hw.1 hw.2
  obtain ⟨vs, vc_, vk, fs_, fv_, fk_, hVP, hVI, hv16, hv32⟩ := hV w hw.1 hw.2
  have hl3 := hWR.mk
  refine j_aload_n hF dX7_leastDeliverable_0 rfl (j_get hF hpt fl_RX7_27 dX7_leastDeliverable_1 rfl (j_get hF h1 fl_RX7_155 dX7_leastDeliverable_4 rfl (j_astore_n hF dX7_leastDeliverable_7 (Nat.le_of_ble_eq_true rfl) rfl (j_aload_n hF dX7_leastDeliverable_8 rfl (j_get hF hpt fl_RX7_27 dX7_leastDeliverable_9 rfl ?_)))))
  refine j_get hF h1 fl_RX7_189 dX7_leastDeliverable_12 rfl (j_iload_n hF dX7_leastDeliverable_15 rfl (j_aald hF (by decide) h5 dX7_leastDeliverable_16 (by omega) (h9 w hw.1 hw.2).1 (j_astore hF dX7_leastDeliverable_17 (Nat.le_of_ble_eq_true rfl) rfl (j_iconst hF dX7_leastDeliverable_19 (j_istore hF dX7_leastDeliverable_20 (Nat.le_of_ble_eq_true rfl) rfl ?_)))))
  refine j_iconst hF dX7_leastDeliverable_22 (j_istore hF dX7_leastDeliverable_23 (Nat.le_of_ble_eq_true rfl) rfl ?_)
  have LL : ∀ (n : Nat) (i b : Int) (Y : Hp) (mk1 kc0 ks0 : Nat), (r (307 + w) - i).toNat < n → 0 ≤ i ∧ i ≤ r (307 + w) → WR Y 100 y mk1 gn r → FB 100 110 X Y → mk ≤ mk1 → kc0 ≤ 4 * (mk1 - mk) → ks0 ≤ 30400 * (mk1 - mk) → LDv r ut w nd i b → Jd φ Y kc0 ks0 25 [some (.ref pt), some (vi w), some (vi nd), some (.ref ws), some (.ref (v w)), some (vi b), some (vi i), none, none, none] [] := by
    intro n
    induction n with
    | zero => intro i b Y mk1 kc0 ks0 hfu; exact absurd hfu (by omega)
    | succ n ih =>
      intro i b Y mk1 kc0 ks0 hfu hi hWR hFw hmk hkk hnn hL
      have hpt := hFw _ _ _ hpt (by omega)
      have h1 := hFw _ _ _ h1 (by omega)
      have hGP := hGP.keep hFw (by omega)
      have hVP := hVP.keep hFw (by omega)
      have hWP := hWP.keep hFw (by omega)
      have hl3 := hWR.mk
      have hbr := hL.rg
      have J105 : ∀ (b2 : Int) (Y2 : Hp) (mk2 kc2 ks2 : Nat) (l9 : Option Value), i < r (307 + w) → WR Y2 100 y mk2 gn r → FB 100 110 X Y2 → mk ≤ mk2 → kc2 ≤ 4 * (mk2 - mk) → ks2 ≤ 30400 * (mk2 - mk) → LDv r ut w nd (i + 1) b2 → Jd φ Y2 kc2 ks2 105 [some (.ref pt), some (vi w), some (vi nd), some (.ref ws), some (.ref (v w)), some (vi b2), some (vi i), some (vi (ut (12 * w + i))), some (vi ((ut (12 * w + i)) % 1000)), l9] [] := by
        intro b2 Y2 mk2 kc2 ks2 l9 a0 a1 a2 a3 a4 a5 a6
        refine j_iinc hF dX7_leastDeliverable_105 rfl (Nat.le_of_ble_eq_true rfl) rfl (j_goto hF 25 dX7_leastDeliverable_108 (by decide) (j_unset 7 (j_unset 8 (j_unset 9 ?_))))
        exact ih (i + 1) b2 Y2 mk2 kc2 ks2 (by omega) (by omega) a1 a2 a3 a4 a5 a6
      refine j_iload hF dX7_leastDeliverable_25 rfl (j_aload_n hF dX7_leastDeliverable_27 rfl (j_iload_n hF dX7_leastDeliverable_28 rfl (j_callV hF (c_X6_sizeOf hWP hw) ms_X6_sizeOf mv_X6_sizeOf lk_RX7_273 dX7_leastDeliverable_29 hWP.1 rfl rfl rfl (by simp [Value.category]) ⟨⟨(Nat.le_of_ble_eq_true rfl), (Nat.le_of_ble_eq_true rfl)⟩, by omega, by omega⟩ (fun v1 X1 hp1 hE1 => ?_))))
      obtain ⟨rfl, he1⟩ := hp1; obtain rfl := he1.symm
      rw [u1]
      refine j_icmp_ge hF 111 dX7_leastDeliverable_32 (by decide) (by omega) (fun c32 => ?_) (fun c32 => ?_)
      ·
        refine j_iload hF dX7_leastDeliverable_111 rfl (j_iretv hF hR dX7_leastDeliverable_113 (by omega) (by omega) ?_)
        have ek : i = r (307 + w) := by omega
        subst ek
        rw [nxt_eq (hL.fin u2 hA hT hw)]
        exact ⟨rfl, mk1, hmk, hWR, hFw, hkk, hnn⟩
      ·
        refine j_aload_n hF dX7_leastDeliverable_35 rfl (j_iload_n hF dX7_leastDeliverable_36 rfl (j_iload hF dX7_leastDeliverable_37 rfl (j_callV hF (c_X6_stampAt hWP hw (by omega)) ms_X6_stampAt mv_X6_stampAt lk_RX7_275 dX7_leastDeliverable_39 hWP.1 rfl rfl rfl (by simp [Value.category]) ⟨⟨(Nat.le_of_ble_eq_true rfl), (Nat.le_of_ble_eq_true rfl)⟩, by omega, by omega⟩ (fun v2 X2 hp2 hE2 => ?_))))
        obtain ⟨rfl, he2⟩ := hp2; obtain rfl := he2.symm
        have hsr := u2.rg hA hT hAP hw hi.1 (by omega)
        refine j_istore hF dX7_leastDeliverable_42 (Nat.le_of_ble_eq_true rfl) rfl (j_iload hF dX7_leastDeliverable_44 rfl (j_sipush hF dX7_leastDeliverable_46 (by decide) (j_irem hF dX7_leastDeliverable_49 (by omega) (j_istore hF dX7_leastDeliverable_50 (Nat.le_of_ble_eq_true rfl) rfl (j_iload hF dX7_leastDeliverable_52 rfl ?_)))))
        refine j_sipush hF dX7_leastDeliverable_54 (by decide) (j_idiv hF dX7_leastDeliverable_57 (by omega) (j_iload_n hF dX7_leastDeliverable_58 rfl (j_icmp_ne hF 105 dX7_leastDeliverable_59 (by decide) (by omega) (fun c59 => ?_) (fun c59 => ?_))))
        ·
          first
          | exact J105 b Y mk1 _ _ _ (by omega) hWR hFw hmk hkk hnn (hL.skip (fun e1 e2 => absurd e1 c59))
          | exact J105 b Y mk1 _ _ _ (by omega) hWR hFw hmk hkk hnn (hL.skip (fun e1 e2 => ⟨c65, by omega⟩))
          | exact J105 b Y mk1 _ _ _ (by omega) hWR hFw hmk hkk hnn (hL.skip (fun e1 e2 => absurd (hVI.none hsr (hrw.resolve_right (fun q => by omega)).2) (by have := e2.1; show ¬ r (6359 + 16000 * w + (ut (12 * w + i))) = 0; omega)))
          | exact J105 b _ mk2 _ _ _ (by omega) hW2 (hFw.trans hFw2) (by omega) (by omega) (by omega) (hL.skip (fun e1 e2 => absurd e2 c98))
          | exact J105 _ _ mk2 _ _ _ (by omega) hW2 (hFw.trans hFw2) (by omega) (by omega) (by omega) (hL.take hi.1 (by omega) c98 hcb)
        ·
          refine j_iload hF dX7_leastDeliverable_62 rfl (j_iconst hF dX7_leastDeliverable_64 (j_icmp_eq hF 75 dX7_leastDeliverable_65 (by decide) (by omega) (fun c65 => ?_) (fun c65 => ?_)))
          ·
            refine j_aload hF dX7_leastDeliverable_75 rfl (j_iload hF dX7_leastDeliverable_77 rfl (j_callV hF (c_X4_rowOf hVP hVI.1 (by omega) hsr hVI.2.2.1) ms_X4_rowOf mv_X4_rowOf lk_RX7_278 dX7_leastDeliverable_79 hVP.1 rfl rfl rfl (by simp [Value.category]) ⟨⟨(Nat.le_of_ble_eq_true rfl), (Nat.le_of_ble_eq_true rfl)⟩, by omega, by omega⟩ (fun v3 X3 hp3 hE3 => ?_)))
            obtain ⟨row, rfl, hrw, he3⟩ := hp3; obtain rfl := he3.symm
            have hrb : -1 ≤ row ∧ row ≤ 20000 := by have q := hVI.top; omega
            refine j_istore hF dX7_leastDeliverable_82 (Nat.le_of_ble_eq_true rfl) rfl (j_iload hF dX7_leastDeliverable_84 rfl (j_iconst hF dX7_leastDeliverable_86 (j_icmp_eq hF 105 dX7_leastDeliverable_87 (by decide) (by omega) (fun c87 => ?_) (fun c87 => ?_))))
            ·
              first
              | exact J105 b Y mk1 _ _ _ (by omega) hWR hFw hmk hkk hnn (hL.skip (fun e1 e2 => absurd e1 c59))
              | exact J105 b Y mk1 _ _ _ (by omega) hWR hFw hmk hkk hnn (hL.skip (fun e1 e2 => ⟨c65, by omega⟩))
              | exact J105 b Y mk1 _ _ _ (by omega) hWR hFw hmk hkk hnn (hL.skip (fun e1 e2 => absurd (hVI.none hsr (hrw.resolve_right (fun q => by omega)).2) (by have := e2.1; show ¬ r (6359 + 16000 * w + (ut (12 * w + i))) = 0; omega)))
              | exact J105 b _ mk2 _ _ _ (by omega) hW2 (hFw.trans hFw2) (by omega) (by omega) (by omega) (hL.skip (fun e1 e2 => absurd e2 c98))
              | exact J105 _ _ mk2 _ _ _ (by omega) hW2 (hFw.trans hFw2) (by omega) (by omega) (by omega) (hL.take hi.1 (by omega) c98 hcb)
            ·
              have hr2 := hrw.resolve_left (fun q => c87 q.1)
              refine j_aload_n hF dX7_leastDeliverable_90 rfl (j_aload hF dX7_leastDeliverable_91 rfl (j_iload hF dX7_leastDeliverable_93 rfl (j_callVv hF (c_X7_isOnFrontier hpt h1 hLB0 hGP hGE hGV hWR hgn hVP hVI (by omega) hw hvd hv32 hr2.1) ms_X7_isOnFrontier mv_X7_isOnFrontier lk_RX7_218 dX7_leastDeliverable_95 hpt rfl rfl rfl (by simp [Value.category]) ⟨⟨(Nat.le_of_ble_eq_true rfl), (Nat.le_of_ble_eq_true rfl)⟩, by omega, by omega⟩ (fun v4 X4 k4 n4 hp4 hE4 => ?_))))
              obtain ⟨rfl, mk2, hmk2, hW2, hFw2, hkk2, hnn2⟩ := hp4
              have hmk3 := hW2.mk
              rw [hr2.2]
              refine j_b_eq hF 105 dX7_leastDeliverable_98 (by decide) (fun c98 => ?_) (fun c98 => ?_)
              ·
                first
                | exact J105 b Y mk1 _ _ _ (by omega) hWR hFw hmk hkk hnn (hL.skip (fun e1 e2 => absurd e1 c59))
                | exact J105 b Y mk1 _ _ _ (by omega) hWR hFw hmk hkk hnn (hL.skip (fun e1 e2 => ⟨c65, by omega⟩))
                | exact J105 b Y mk1 _ _ _ (by omega) hWR hFw hmk hkk hnn (hL.skip (fun e1 e2 => absurd (hVI.none hsr (hrw.resolve_right (fun q => by omega)).2) (by have := e2.1; show ¬ r (6359 + 16000 * w + (ut (12 * w + i))) = 0; omega)))
                | exact J105 b _ mk2 _ _ _ (by omega) hW2 (hFw.trans hFw2) (by omega) (by omega) (by omega) (hL.skip (fun e1 e2 => absurd e2 c98))
                | exact J105 _ _ mk2 _ _ _ (by omega) hW2 (hFw.trans hFw2) (by omega) (by omega) (by omega) (hL.take hi.1 (by omega) c98 hcb)
              ·
                have hcb : b = -1 ∨ (ut (12 * w + i)) % 1000 < b := by omega
                refine j_iload hF dX7_leastDeliverable_101 rfl (j_istore hF dX7_leastDeliverable_103 (Nat.le_of_ble_eq_true rfl) rfl ?_)
                first
                | exact J105 b Y mk1 _ _ _ (by omega) hWR hFw hmk hkk hnn (hL.skip (fun e1 e2 => absurd e1 c59))
                | exact J105 b Y mk1 _ _ _ (by omega) hWR hFw hmk hkk hnn (hL.skip (fun e1 e2 => ⟨c65, by omega⟩))
                | exact J105 b Y mk1 _ _ _ (by omega) hWR hFw hmk hkk hnn (hL.skip (fun e1 e2 => absurd (hVI.none hsr (hrw.resolve_right (fun q => by omega)).2) (by have := e2.1; show ¬ r (6359 + 16000 * w + (ut (12 * w + i))) = 0; omega)))
                | exact J105 b _ mk2 _ _ _ (by omega) hW2 (hFw.trans hFw2) (by omega) (by omega) (by omega) (hL.skip (fun e1 e2 => absurd e2 c98))
                | exact J105 _ _ mk2 _ _ _ (by omega) hW2 (hFw.trans hFw2) (by omega) (by omega) (by omega) (hL.take hi.1 (by omega) c98 hcb)
          ·
            refine j_iload hF dX7_leastDeliverable_68 rfl (j_iload hF dX7_leastDeliverable_70 rfl (j_icmp_ge hF 105 dX7_leastDeliverable_72 (by decide) (by omega) (fun c72 => ?_) (fun c72 => ?_)))
            ·
              first
              | exact J105 b Y mk1 _ _ _ (by omega) hWR hFw hmk hkk hnn (hL.skip (fun e1 e2 => absurd e1 c59))
              | exact J105 b Y mk1 _ _ _ (by omega) hWR hFw hmk hkk hnn (hL.skip (fun e1 e2 => ⟨c65, by omega⟩))
              | exact J105 b Y mk1 _ _ _ (by omega) hWR hFw hmk hkk hnn (hL.skip (fun e1 e2 => absurd (hVI.none hsr (hrw.resolve_right (fun q => by omega)).2) (by have := e2.1; show ¬ r (6359 + 16000 * w + (ut (12 * w + i))) = 0; omega)))
              | exact J105 b _ mk2 _ _ _ (by omega) hW2 (hFw.trans hFw2) (by omega) (by omega) (by omega) (hL.skip (fun e1 e2 => absurd e2 c98))
              | exact J105 _ _ mk2 _ _ _ (by omega) hW2 (hFw.trans hFw2) (by omega) (by omega) (by omega) (hL.take hi.1 (by omega) c98 hcb)
            ·
              refine j_aload hF dX7_leastDeliverable_75 rfl (j_iload hF dX7_leastDeliverable_77 rfl (j_callV hF (c_X4_rowOf hVP hVI.1 (by omega) hsr hVI.2.2.1) ms_X4_rowOf mv_X4_rowOf lk_RX7_278 dX7_leastDeliverable_79 hVP.1 rfl rfl rfl (by simp [Value.category]) ⟨⟨(Nat.le_of_ble_eq_true rfl), (Nat.le_of_ble_eq_true rfl)⟩, by omega, by omega⟩ (fun v5 X5 hp5 hE5 => ?_)))
              obtain ⟨row, rfl, hrw, he5⟩ := hp5; obtain rfl := he5.symm
              have hrb : -1 ≤ row ∧ row ≤ 20000 := by have q := hVI.top; omega
              refine j_istore hF dX7_leastDeliverable_82 (Nat.le_of_ble_eq_true rfl) rfl (j_iload hF dX7_leastDeliverable_84 rfl (j_iconst hF dX7_leastDeliverable_86 (j_icmp_eq hF 105 dX7_leastDeliverable_87 (by decide) (by omega) (fun c87 => ?_) (fun c87 => ?_))))
              ·
                first
                | exact J105 b Y mk1 _ _ _ (by omega) hWR hFw hmk hkk hnn (hL.skip (fun e1 e2 => absurd e1 c59))
                | exact J105 b Y mk1 _ _ _ (by omega) hWR hFw hmk hkk hnn (hL.skip (fun e1 e2 => ⟨c65, by omega⟩))
                | exact J105 b Y mk1 _ _ _ (by omega) hWR hFw hmk hkk hnn (hL.skip (fun e1 e2 => absurd (hVI.none hsr (hrw.resolve_right (fun q => by omega)).2) (by have := e2.1; show ¬ r (6359 + 16000 * w + (ut (12 * w + i))) = 0; omega)))
                | exact J105 b _ mk2 _ _ _ (by omega) hW2 (hFw.trans hFw2) (by omega) (by omega) (by omega) (hL.skip (fun e1 e2 => absurd e2 c98))
                | exact J105 _ _ mk2 _ _ _ (by omega) hW2 (hFw.trans hFw2) (by omega) (by omega) (by omega) (hL.take hi.1 (by omega) c98 hcb)
              ·
                have hr2 := hrw.resolve_left (fun q => c87 q.1)
                refine j_aload_n hF dX7_leastDeliverable_90 rfl (j_aload hF dX7_leastDeliverable_91 rfl (j_iload hF dX7_leastDeliverable_93 rfl (j_callVv hF (c_X7_isOnFrontier hpt h1 hLB0 hGP hGE hGV hWR hgn hVP hVI (by omega) hw hvd hv32 hr2.1) ms_X7_isOnFrontier mv_X7_isOnFrontier lk_RX7_218 dX7_leastDeliverable_95 hpt rfl rfl rfl (by simp [Value.category]) ⟨⟨(Nat.le_of_ble_eq_true rfl), (Nat.le_of_ble_eq_true rfl)⟩, by omega, by omega⟩ (fun v6 X6 k6 n6 hp6 hE6 => ?_))))
                obtain ⟨rfl, mk2, hmk2, hW2, hFw2, hkk2, hnn2⟩ := hp6
                have hmk3 := hW2.mk
                rw [hr2.2]
                refine j_b_eq hF 105 dX7_leastDeliverable_98 (by decide) (fun c98 => ?_) (fun c98 => ?_)
                ·
                  first
                  | exact J105 b Y mk1 _ _ _ (by omega) hWR hFw hmk hkk hnn (hL.skip (fun e1 e2 => absurd e1 c59))
                  | exact J105 b Y mk1 _ _ _ (by omega) hWR hFw hmk hkk hnn (hL.skip (fun e1 e2 => ⟨c65, by omega⟩))
                  | exact J105 b Y mk1 _ _ _ (by omega) hWR hFw hmk hkk hnn (hL.skip (fun e1 e2 => absurd (hVI.none hsr (hrw.resolve_right (fun q => by omega)).2) (by have := e2.1; show ¬ r (6359 + 16000 * w + (ut (12 * w + i))) = 0; omega)))
                  | exact J105 b _ mk2 _ _ _ (by omega) hW2 (hFw.trans hFw2) (by omega) (by omega) (by omega) (hL.skip (fun e1 e2 => absurd e2 c98))
                  | exact J105 _ _ mk2 _ _ _ (by omega) hW2 (hFw.trans hFw2) (by omega) (by omega) (by omega) (hL.take hi.1 (by omega) c98 hcb)
                ·
                  have hcb : b = -1 ∨ (ut (12 * w + i)) % 1000 < b := by omega
                  refine j_iload hF dX7_leastDeliverable_101 rfl (j_istore hF dX7_leastDeliverable_103 (Nat.le_of_ble_eq_true rfl) rfl ?_)
                  first
                  | exact J105 b Y mk1 _ _ _ (by omega) hWR hFw hmk hkk hnn (hL.skip (fun e1 e2 => absurd e1 c59))
                  | exact J105 b Y mk1 _ _ _ (by omega) hWR hFw hmk hkk hnn (hL.skip (fun e1 e2 => ⟨c65, by omega⟩))
                  | exact J105 b Y mk1 _ _ _ (by omega) hWR hFw hmk hkk hnn (hL.skip (fun e1 e2 => absurd (hVI.none hsr (hrw.resolve_right (fun q => by omega)).2) (by have := e2.1; show ¬ r (6359 + 16000 * w + (ut (12 * w + i))) = 0; omega)))
                  | exact J105 b _ mk2 _ _ _ (by omega) hW2 (hFw.trans hFw2) (by omega) (by omega) (by omega) (hL.skip (fun e1 e2 => absurd e2 c98))
                  | exact J105 _ _ mk2 _ _ _ (by omega) hW2 (hFw.trans hFw2) (by omega) (by omega) (by omega) (hL.take hi.1 (by omega) c98 hcb)
  exact LL ((r (307 + w)).toNat + 1) 0 (-1) X mk _ _ (by omega) (by omega) hWR (FB.refl _ _ X) (Nat.le_refl _) (by omega) (by omega) (Or.inl ⟨rfl, fun j j1 j2 => absurd j2 (by omega)⟩)

set_option maxRecDepth 100000 in
set_option maxHeartbeats 4000000 in
theorem c_X7_deliverable {X : Hp} {pt kap : Nat} {ct : Int} {r pf : Int → Int} {sv : Int} {er : Int → Int} (hP : PP X pt kap ct (r, pf, sv, er)) (hGV : GV r) (hE : EI er)  {w n : Int} (hct : 0 ≤ ct ∧ ct ≤ 1000) (hA : AS r) (hT : AT r) (hAP : AP_ r) (hvd : VDv r) (h_w : -2147483648 ≤ w ∧ w ≤ 2147483647) (h_n : -2147483648 ≤ n ∧ n ≤ 2147483647) : Cv yX7_deliverable cX7_deliverable 3 (some .int) 7 175 [.ref pt, vi w, vi n] X (393155 - kap) (6 * (393155 - kap)) (fun rv X' kk nn => rv = some (vi (sp_deliverable (r, pf, sv, er) w n).1) ∧ PPQ X X' pt kap (ct + 1) (sp_deliverable (r, pf, sv, er) w n).2 kk nn) := by
  refine Cv.of (by decide +kernel) [some (.ref pt), some (vi w), some (vi n)] rfl (Nat.le_of_ble_eq_true rfl) (fun φ hF hR => ?_)
  obtain ⟨ea, sa, y, st, B, mk, gn, kn, kr, hO, hea, hWR, hgn, hST, hkap⟩ := id hP
  dsimp only at hO hea hWR hST
  obtain ⟨g, ml, ws, va, qa, oe, dc, v_, q_, n_, m_, z_, f_, hS, hV, hQ, hk_⟩ := id hST
  obtain ⟨av, aq, ao, af, h1, ⟨ga, gb, gc, gd, nc, ec, jd, js, je, jk, hGP, hGE⟩, ⟨mz, mt, yz, yt, hMP, x1, x2⟩, ⟨wz, wt, uz, ut, hWP, x3⟩, h5, h6, h7, h8, h9, h10, h11⟩ := id hS
  obtain ⟨g1, g1'⟩ := id hGE.1
  subst g1
  subst g1'
  have hpt := hO.pt.1
  have hLB := hO.pt.2
  unfold LB at hLB
  have b0 := hGV.1.1
  have b1 := hGV.1.2.1
  have hP2 := hP
  have hF2 := FB.refl 0 5000 X
  have hl1 := hST.le
  have hl2 := hO.le
  have hl3 := hWR.mk
  obtain ⟨ol, hyo⟩ := hWR.obj
  refine j_iload_n hF dX7_deliverable_0 rfl (j_callS hF (c_X7_isWorker (by omega)) ms_X7_isWorker mt_X7_isWorker lk_RX7_111 dX7_deliverable_1 rfl rfl rfl (by simp [Value.category]) ⟨⟨(Nat.le_of_ble_eq_true rfl), (Nat.le_of_ble_eq_true rfl)⟩, by omega, by omega⟩ (fun v1 X1 hp1 hE1 => ?_))
  obtain ⟨rfl, he1⟩ := hp1; obtain rfl := he1.symm
  refine j_b_eq hF 21 dX7_deliverable_4 (by decide) (fun c4 => ?_) (fun c4 => ?_)
  ·
    refine j_aload_n hF dX7_deliverable_21 rfl (j_bipush hF dX7_deliverable_22 (by decide) (j_callV hF (c_X7_fail hP hE (by omega)) ms_X7_fail mv_X7_fail lk_RX7_35 dX7_deliverable_24 hpt rfl rfl rfl (by simp [Value.category]) ⟨⟨(Nat.le_of_ble_eq_true rfl), (Nat.le_of_ble_eq_true rfl)⟩, by omega, by omega⟩ (fun v2 X2 hp2 hE2 => ?_)))
    obtain ⟨rfl, hP2, hF2⟩ := hp2
    refine j_iretv hF hR dX7_deliverable_27 (by omega) (by omega) ?_
    refine PV ?_ (hP2.mono (by omega)) hF2 (by omega) (by omega) (by omega)
    unfold sp_deliverable
    first | exact pif_t ⟨c4, c18⟩ | exact pif_f (fun h => c4 h.1) | exact pif_f (fun h => c18 h.2)
  ·
    refine j_aload_n hF dX7_deliverable_7 rfl (j_get hF hpt fl_RX7_27 dX7_deliverable_8 rfl (j_get hF h1 fl_RX7_43 dX7_deliverable_11 rfl (j_iload_n hF dX7_deliverable_14 rfl (j_callV hF (c_X0_hasNode hGP (by omega) (by omega)) ms_X0_hasNode mv_X0_hasNode lk_RX7_63 dX7_deliverable_15 hGP.1 rfl rfl rfl (by simp [Value.category]) ⟨⟨(Nat.le_of_ble_eq_true rfl), (Nat.le_of_ble_eq_true rfl)⟩, by omega, by omega⟩ (fun v3 X3 hp3 hE3 => ?_)))))
    obtain ⟨rfl, he3⟩ := hp3; obtain rfl := he3.symm
    refine j_b_ne hF 28 dX7_deliverable_18 (by decide) (fun c18 => ?_) (fun c18 => ?_)
    ·
      refine j_aload_n hF dX7_deliverable_28 rfl (j_iload_n hF dX7_deliverable_29 rfl (j_iload_n hF dX7_deliverable_30 rfl (j_callVv hF (c_X7_leastDeliverable hpt hS hV hO.pt.2 hGV hA hT hAP hvd hWR (by omega) c4 (by omega)) ms_X7_leastDeliverable mv_X7_leastDeliverable lk_RX7_176 dX7_deliverable_31 hpt rfl rfl rfl (by simp [Value.category]) ⟨⟨(Nat.le_of_ble_eq_true rfl), (Nat.le_of_ble_eq_true rfl)⟩, by omega, by omega⟩ (fun v4 X4 k4 n4 hp4 hE4 => ?_))))
      obtain ⟨rfl, mk2, hmk, hW2, hFw, hkk, hnn⟩ := hp4
      have hmk1 := hW2.mk
      have hP2 : PP X4 pt (kn + kr + 5067 * mk2) ct (r, pf, sv, er) := ⟨ea, sa, y, st, B, mk2, gn, kn, kr, hO.keep hFw (by omega), hFw _ _ _ hea (by omega), hW2, hgn, hST.keep hFw (by omega), rfl⟩
      have hF2 : FB 0 5000 X X4 := hFw.mono (by omega) (by omega)
      refine j_iretv hF hR dX7_deliverable_34 (by omega) (by omega) ?_
      refine PV ?_ (hP2.mono (by omega)) hF2 (by omega) (by omega) (by omega)
      unfold sp_deliverable
      first | exact pif_t ⟨c4, c18⟩ | exact pif_f (fun h => c4 h.1) | exact pif_f (fun h => c18 h.2)
    ·
      refine j_aload_n hF dX7_deliverable_21 rfl (j_bipush hF dX7_deliverable_22 (by decide) (j_callV hF (c_X7_fail hP hE (by omega)) ms_X7_fail mv_X7_fail lk_RX7_35 dX7_deliverable_24 hpt rfl rfl rfl (by simp [Value.category]) ⟨⟨(Nat.le_of_ble_eq_true rfl), (Nat.le_of_ble_eq_true rfl)⟩, by omega, by omega⟩ (fun v5 X5 hp5 hE5 => ?_)))
      obtain ⟨rfl, hP2, hF2⟩ := hp5
      refine j_iretv hF hR dX7_deliverable_27 (by omega) (by omega) ?_
      refine PV ?_ (hP2.mono (by omega)) hF2 (by omega) (by omega) (by omega)
      unfold sp_deliverable
      first | exact pif_t ⟨c4, c18⟩ | exact pif_f (fun h => c4 h.1) | exact pif_f (fun h => c18 h.2)

set_option maxRecDepth 100000 in
set_option maxHeartbeats 4000000 in
theorem c_X7_frontier {X : Hp} {pt kap : Nat} {ct : Int} {r pf : Int → Int} {sv : Int} {er : Int → Int} (hP : PP X pt kap ct (r, pf, sv, er)) (hGV : GV r) (hE : EI er)  {w x : Int} (hct : 0 ≤ ct ∧ ct ≤ 1000) (hvd : VDv r) (h_w : -2147483648 ≤ w ∧ w ≤ 2147483647) (h_x : -2147483648 ≤ x ∧ x ≤ 2147483647) : Cv yX7_frontier cX7_frontier 6 (some .int) 6 146 [.ref pt, vi w, vi x] X (393155 - kap) (6 * (393155 - kap)) (fun rv X' kk nn => rv = some (vi (sp_frontier (r, pf, sv, er) w x).1) ∧ PPQ X X' pt kap (ct + 1) (sp_frontier (r, pf, sv, er) w x).2 kk nn) := by
  refine Cv.of (by decide +kernel) [some (.ref pt), some (vi w), some (vi x), none, none, none] rfl (Nat.le_of_ble_eq_true rfl) (fun φ hF hR => ?_)
  obtain ⟨ea, sa, y, st, B, mk, gn, kn, kr, hO, hea, hWR, hgn, hST, hkap⟩ := id hP
  dsimp only at hO hea hWR hST
  obtain ⟨g, ml, ws, va, qa, oe, dc, v_, q_, n_, m_, z_, f_, hS, hV, hQ, hk_⟩ := id hST
  obtain ⟨av, aq, ao, af, h1, ⟨ga, gb, gc, gd, nc, ec, jd, js, je, jk, hGP, hGE⟩, ⟨mz, mt, yz, yt, hMP, x1, x2⟩, ⟨wz, wt, uz, ut, hWP, x3⟩, h5, h6, h7, h8, h9, h10, h11⟩ := id hS
  obtain ⟨g1, g1'⟩ := id hGE.1
  subst g1
  subst g1'
  have hpt := hO.pt.1
  have hLB := hO.pt.2
  unfold LB at hLB
  have b0 := hGV.1.1
  have b1 := hGV.1.2.1
  have hP2 := hP
  have hF2 := FB.refl 0 5000 X
  have hl1 := hST.le
  have hl2 := hO.le
  have hl3 := hWR.mk
  obtain ⟨ol, hyo⟩ := hWR.obj
  refine j_iload_n hF dX7_frontier_0 rfl (j_callS hF (c_X7_isWorker (by omega)) ms_X7_isWorker mt_X7_isWorker lk_RX7_111 dX7_frontier_1 rfl rfl rfl (by simp [Value.category]) ⟨⟨(Nat.le_of_ble_eq_true rfl), (Nat.le_of_ble_eq_true rfl)⟩, by omega, by omega⟩ (fun v1 X1 hp1 hE1 => ?_))
  obtain ⟨rfl, he1⟩ := hp1; obtain rfl := he1.symm
  refine j_b_eq hF 12 dX7_frontier_4 (by decide) (fun c4 => ?_) (fun c4 => ?_)
  ·
    refine j_aload_n hF dX7_frontier_12 rfl (j_bipush hF dX7_frontier_13 (by decide) (j_callV hF (c_X7_fail hP hE (by omega)) ms_X7_fail mv_X7_fail lk_RX7_35 dX7_frontier_15 hpt rfl rfl rfl (by simp [Value.category]) ⟨⟨(Nat.le_of_ble_eq_true rfl), (Nat.le_of_ble_eq_true rfl)⟩, by omega, by omega⟩ (fun v2 X2 hp2 hE2 => ?_)))
    obtain ⟨rfl, hP2, hF2⟩ := hp2
    refine j_iretv hF hR dX7_frontier_18 (by omega) (by omega) ?_
    refine PV ?_ (hP2.mono (by omega)) hF2 (by omega) (by omega) (by omega)
    unfold sp_frontier
    first | exact pif_f (fun h => c4 h.1) | exact pif_f (fun h => absurd h.2 (by omega))
  ·
    refine j_iload_n hF dX7_frontier_7 rfl (j_iconst hF dX7_frontier_8 (j_icmp_ge hF 19 dX7_frontier_9 (by decide) (by omega) (fun c9 => ?_) (fun c9 => ?_)))
    ·
      obtain ⟨vs, vc_, vk, fs_, fv_, fk_, hVP, hVI, hv16, hv32⟩ := hV w c4.1 c4.2
      have hz := hVI.1
      have ht := hVI.top
      have hO0 := hO
      have hea0 := hea
      have hST0 := hST
      refine j_aload_n hF dX7_frontier_19 rfl (j_get hF hpt fl_RX7_27 dX7_frontier_20 rfl (j_get hF h1 fl_RX7_189 dX7_frontier_23 rfl (j_iload_n hF dX7_frontier_26 rfl (j_aald hF (by decide) h5 dX7_frontier_27 (by omega) (h9 w c4.1 c4.2).1 (j_astore_n hF dX7_frontier_28 (Nat.le_of_ble_eq_true rfl) rfl ?_)))))
      refine j_iconst hF dX7_frontier_29 (j_istore hF dX7_frontier_30 (Nat.le_of_ble_eq_true rfl) rfl (j_iconst hF dX7_frontier_32 (j_istore hF dX7_frontier_33 (Nat.le_of_ble_eq_true rfl) rfl ?_)))
      have LL : ∀ (n : Nat) (i : Int) (Y : Hp) (mk1 kc0 ks0 : Nat), (z_ w - i).toNat < n → 0 ≤ i ∧ i ≤ z_ w → WR Y 100 y mk1 gn r → FB 100 110 X Y → mk ≤ mk1 → kc0 ≤ 4 * (mk1 - mk) → ks0 ≤ 30400 * (mk1 - mk) → (∀ j, 0 ≤ j → j < i → onF r w (fs_ j) → ¬ cf (fun j => oF r w (fs_ j)) j.toNat = x) → Jd φ Y kc0 ks0 35 [some (.ref pt), some (vi w), some (vi x), some (.ref (v_ w)), some (vi (cf (fun j => oF r w (fs_ j)) i.toNat)), some (vi i)] [] := by
        intro n
        induction n with
        | zero => intro i Y mk1 kc0 ks0 hfu; exact absurd hfu (by omega)
        | succ n ih =>
          intro i Y mk1 kc0 ks0 hfu hi hWR hFw hmk hkk hnn hN
          have hpt := hFw _ _ _ hpt (by omega)
          have h1 := hFw _ _ _ h1 (by omega)
          have hGP := hGP.keep hFw (by omega)
          have hVP := hVP.keep hFw (by omega)
          have hO := hO.keep hFw (by omega)
          have hl3 := hWR.mk
          have cr := cf_rg (f := fun j => oF r w (fs_ j)) i.toNat (fun j _ _ => bz_rg _)
          have ek : ((i.toNat : Nat) : Int) = i := by omega
          have et : (i + 1).toNat = i.toNat + 1 := by omega
          refine j_iload hF dX7_frontier_35 rfl (j_aload_n hF dX7_frontier_37 rfl (j_get hF hVP.1 fl_RX7_215 dX7_frontier_38 rfl (j_icmp_ge hF 77 dX7_frontier_41 (by decide) (by omega) (fun c41 => ?_) (fun c41 => ?_))))
          ·
            refine j_iload_n hF dX7_frontier_77 rfl (j_iconst hF dX7_frontier_78 (j_icmp_ne hF 87 dX7_frontier_79 (by decide) (by omega) (fun c79 => ?_) (fun c79 => ?_)))
            ·
              refine j_iconst hF dX7_frontier_87 (j_iretv hF hR dX7_frontier_88 (by omega) (by omega) ?_)
              have hP2 : PP Y pt (kn + kr + 5067 * mk1) ct (r, pf, sv, er) := ⟨ea, sa, y, st, B, mk1, gn, kn, kr, hO0.keep hFw (by omega), hFw _ _ _ hea0 (by omega), hWR, hgn, hST0.keep hFw (by omega), rfl⟩
              refine PV ?_ (hP2.mono (by omega)) (hFw.mono (by omega) (by omega)) (by omega) (by omega) (by omega)
              unfold sp_frontier
              refine (pif_t ⟨c4, c9⟩).trans ?_
              have ez : i = z_ w := by omega
              first
              | (rw [if_pos (show x = -1 from c79), ez, hVI.all (g := oF r w) oF_0])
              | (rw [if_neg (show ¬ x = -1 from c79), frAt_eq (hVI.fr0 (v := -1) (fun j j1 j2 j3 => hN j j1 (by omega) j3) rfl)])
            ·
              refine j_iload hF dX7_frontier_82 rfl (j_goto hF 88 dX7_frontier_84 (by decide) (j_iretv hF hR dX7_frontier_88 (by omega) (by omega) ?_))
              have hP2 : PP Y pt (kn + kr + 5067 * mk1) ct (r, pf, sv, er) := ⟨ea, sa, y, st, B, mk1, gn, kn, kr, hO0.keep hFw (by omega), hFw _ _ _ hea0 (by omega), hWR, hgn, hST0.keep hFw (by omega), rfl⟩
              refine PV ?_ (hP2.mono (by omega)) (hFw.mono (by omega) (by omega)) (by omega) (by omega) (by omega)
              unfold sp_frontier
              refine (pif_t ⟨c4, c9⟩).trans ?_
              have ez : i = z_ w := by omega
              first
              | (rw [if_pos (show x = -1 from c79), ez, hVI.all (g := oF r w) oF_0])
              | (rw [if_neg (show ¬ x = -1 from c79), frAt_eq (hVI.fr0 (v := -1) (fun j j1 j2 j3 => hN j j1 (by omega) j3) rfl)])
          ·
            refine j_aload_n hF dX7_frontier_44 rfl (j_aload_n hF dX7_frontier_45 rfl (j_iload hF dX7_frontier_46 rfl (j_callVv hF (c_X7_isOnFrontier hpt h1 hO.pt.2 hGP hGE hGV hWR (by omega) hVP hVI (by omega) c4 hvd hv32 (by omega)) ms_X7_isOnFrontier mv_X7_isOnFrontier lk_RX7_218 dX7_frontier_48 hpt rfl rfl rfl (by simp [Value.category]) ⟨⟨(Nat.le_of_ble_eq_true rfl), (Nat.le_of_ble_eq_true rfl)⟩, by omega, by omega⟩ (fun v1 X1 k1 n1 hp1 hE1 => ?_))))
            obtain ⟨rfl, mk2, hmk2, hW2, hFw2, hkk2, hnn2⟩ := hp1
            have hmk3 := hW2.mk
            have hFw := hFw.trans hFw2
            have hVP := hVP.keep hFw2 (by omega)
            have es : cf (fun j => oF r w (fs_ j)) (i + 1).toNat = (cf (fun j => oF r w (fs_ j)) i.toNat) + bz (onF r w (fs_ i)) := by
              rw [et]
              show cf (fun j => oF r w (fs_ j)) i.toNat + oF r w (fs_ ((i.toNat : Nat) : Int)) = _
              rw [ek]; rfl
            refine j_b_eq hF 71 dX7_frontier_51 (by decide) (fun c51 => ?_) (fun c51 => ?_)
            ·
              refine j_iinc hF dX7_frontier_71 rfl (Nat.le_of_ble_eq_true rfl) rfl (j_goto hF 35 dX7_frontier_74 (by decide) ?_)
              have ef : (cf (fun j => oF r w (fs_ j)) i.toNat) = cf (fun j => oF r w (fs_ j)) (i + 1).toNat := by
                rw [es]; first | (rw [bz_f c51]; omega) | rw [bz_t c51]
              rw [ef]
              refine ih (i + 1) _ mk2 _ _ (by omega) (by omega) hW2 hFw (by omega) (by omega) (by omega) (fun j j1 j2 j3 => ?_)
              by_cases q : j = i
              · first | (rw [q] at j3; exact absurd j3 c51) | (rw [q]; exact c57)
              · exact hN j j1 (by omega) j3
            ·
              refine j_iload hF dX7_frontier_54 rfl (j_iload_n hF dX7_frontier_56 rfl (j_icmp_ne hF 68 dX7_frontier_57 (by decide) (by omega) (fun c57 => ?_) (fun c57 => ?_)))
              ·
                refine j_iinc hF dX7_frontier_68 rfl (Nat.le_of_ble_eq_true rfl) rfl ?_
                refine j_iinc hF dX7_frontier_71 rfl (Nat.le_of_ble_eq_true rfl) rfl (j_goto hF 35 dX7_frontier_74 (by decide) ?_)
                have ef : ((cf (fun j => oF r w (fs_ j)) i.toNat) + 1) = cf (fun j => oF r w (fs_ j)) (i + 1).toNat := by
                  rw [es]; first | (rw [bz_f c51]; omega) | rw [bz_t c51]
                rw [ef]
                refine ih (i + 1) _ mk2 _ _ (by omega) (by omega) hW2 hFw (by omega) (by omega) (by omega) (fun j j1 j2 j3 => ?_)
                by_cases q : j = i
                · first | (rw [q] at j3; exact absurd j3 c51) | (rw [q]; exact c57)
                · exact hN j j1 (by omega) j3
              ·
                refine j_aload_n hF dX7_frontier_60 rfl (j_get hF hVP.1 fl_RX7_222 dX7_frontier_61 rfl (j_iload hF dX7_frontier_64 rfl (j_iald hF hVP.2.1 dX7_frontier_66 (by omega) (fun ra2 rb2 => ?_))))
                refine j_iretv hF hR dX7_frontier_67 (by omega) (by omega) ?_
                have hfa : FA r w x (fs_ i) := by
                  have hvi := hVI.2.1 i hi.1 (by omega)
                  refine Or.inr ⟨hvi.1, c51, ?_⟩
                  have q := hVI.fr (i := i.toNat) (by omega)
                  rw [ek] at q
                  rw [← q]; exact c57
                have hP2 : PP _ pt (kn + kr + 5067 * mk2) ct (r, pf, sv, er) := ⟨ea, sa, y, st, B, mk2, gn, kn, kr, hO0.keep hFw (by omega), hFw _ _ _ hea0 (by omega), hW2, hgn, hST0.keep hFw (by omega), rfl⟩
                refine PV ?_ (hP2.mono (by omega)) (hFw.mono (by omega) (by omega)) (by omega) (by omega) (by omega)
                unfold sp_frontier
                refine (pif_t ⟨c4, c9⟩).trans ?_
                rw [if_neg (show ¬ x = -1 by omega), frAt_eq hfa]
      exact LL ((z_ w).toNat + 1) 0 X mk _ _ (by omega) (by omega) hWR (FB.refl _ _ X) (Nat.le_refl _) (by omega) (by omega) (fun j j1 j2 => absurd j2 (by omega))
    ·
      refine j_aload_n hF dX7_frontier_12 rfl (j_bipush hF dX7_frontier_13 (by decide) (j_callV hF (c_X7_fail hP hE (by omega)) ms_X7_fail mv_X7_fail lk_RX7_35 dX7_frontier_15 hpt rfl rfl rfl (by simp [Value.category]) ⟨⟨(Nat.le_of_ble_eq_true rfl), (Nat.le_of_ble_eq_true rfl)⟩, by omega, by omega⟩ (fun v3 X3 hp3 hE3 => ?_)))
      obtain ⟨rfl, hP2, hF2⟩ := hp3
      refine j_iretv hF hR dX7_frontier_18 (by omega) (by omega) ?_
      refine PV ?_ (hP2.mono (by omega)) hF2 (by omega) (by omega) (by omega)
      unfold sp_frontier
      first | exact pif_f (fun h => c4 h.1) | exact pif_f (fun h => absurd h.2 (by omega))

