theorem cf_rg {f : Int → Int} : ∀ n : Nat, (∀ j : Int, 0 ≤ j → j < n → 0 ≤ f j ∧ f j ≤ 1) → 0 ≤ cf f n ∧ cf f n ≤ n
  | 0, _ => by simp [cf]
  | n + 1, h => by
    have := cf_rg n (fun j a b => h j a (by omega))
    have := h n (by omega) (by omega)
    rw [cf]
    omega
theorem FK.z (ac fi : Int → Int) (x : Int) : FK ac fi x 0 (-1) := Or.inl ⟨rfl, fun i h1 h2 => by omega⟩
theorem FK.hit {ac fi : Int → Int} {x k : Int} (hk : 0 ≤ k) (h1 : ¬ fi k = 0) (h2 : cf fi k.toNat = x) : FK ac fi x (k + 1) (ac k) := Or.inr ⟨k, ⟨hk, by omega⟩, h1, h2, rfl⟩
theorem FK.miss {ac fi : Int → Int} {x k f : Int} (h : FK ac fi x k f) (h1 : ¬ fi k = 0 → ¬ cf fi k.toNat = x) : FK ac fi x (k + 1) f := by
  rcases h with ⟨g1, g2⟩ | ⟨i, i1, i2, i3, i4⟩
  · left
    refine ⟨g1, fun i a b c => ?_⟩
    rcases (show i < k ∨ i = k by omega) with h | rfl
    · exact g2 i a h c
    · exact h1 c
  · exact Or.inr ⟨i, ⟨i1.1, by omega⟩, i2, i3, i4⟩
set_option maxRecDepth 100000 in
set_option maxHeartbeats 4000000 in
theorem c_X8_isOnFrontier {X : Hp} {ad : Nat → Nat} {r pf : Int → Int} {sv : Int} {er sn lw rc wt : Int → Int} {wg : Int} {ls ac fi : Int → Int} {as : Int} {hh : Int64} (hM : MM X ad r pf sv er sn lw rc wt wg ls ac fi as hh) {w nd t : Int} (hFI : FI r w ac fi as) (hn : 0 ≤ nd ∧ nd < 16) (ht : 0 ≤ t ∧ t ≤ 999) : Ct yX8_isOnFrontier cX8_isOnFrontier 5 (some .boolean) 0 0 [.ref (ad 0), vi nd, vi t] X 0 0 (fun rv X' => rv = some (vi (bz (onF r w (1000 * nd + t)))) ∧ X' = X) := by
  refine Ct.of (by decide +kernel) [some (.ref (ad 0)), some (vi nd), some (vi t), none, none] rfl (Nat.le_of_ble_eq_true rfl) (fun φ hF hR => ?_)
  have hM := hM.g
  have a0 := hFI.1.1
  refine j_iconst hF dX8_isOnFrontier_0 (j_istore_n hF dX8_isOnFrontier_1 (Nat.le_of_ble_eq_true rfl) rfl (j_iconst hF dX8_isOnFrontier_2 (j_istore hF dX8_isOnFrontier_3 (Nat.le_of_ble_eq_true rfl) rfl ?_)))
  have LL : ∀ (n : Nat) (k : Int), (as - k).toNat < n → 0 ≤ k ∧ k ≤ as → Jd φ X 0 0 5 [some (.ref (ad 0)), some (vi nd), some (vi t), some (vi (bz (BE (fun i => ¬ fi i = 0 ∧ ac i = 1000 * nd + t) k))), some (vi k)] [] := by
    intro n
    induction n with
    | zero => intro k hfu; exact absurd hfu (by omega)
    | succ n ih =>
      intro k hfu hk
      refine j_iload hF dX8_isOnFrontier_5 rfl (j_aload_n hF dX8_isOnFrontier_7 rfl (j_get hF hM.1.1 fl_RX8_149 dX8_isOnFrontier_8 rfl (j_icmp_ge hF 57 dX8_isOnFrontier_11 (by decide) (by omega) (fun c11 => ?_) (fun c11 => ?_))))
      ·
        refine j_iload_n hF dX8_isOnFrontier_57 rfl (j_zret hF hR (bz_01 _) dX8_isOnFrontier_58 (by omega) (by omega) ?_)
        have ek : k = as := by omega
        rw [ek]
        exact ⟨sv_eq (bz_iff (hFI.on (by omega) (by omega))), rfl⟩
      ·
        refine j_iload_n hF dX8_isOnFrontier_14 rfl (j_b_ne hF 45 dX8_isOnFrontier_15 (by decide) (fun cb => ?_) (fun cb => ?_))
        ·
          refine j_iconst hF dX8_isOnFrontier_45 (j_goto hF 50 dX8_isOnFrontier_46 (by decide) (j_istore_n hF dX8_isOnFrontier_50 (Nat.le_of_ble_eq_true rfl) rfl (j_iinc hF dX8_isOnFrontier_51 rfl (Nat.le_of_ble_eq_true rfl) rfl (j_goto hF 5 dX8_isOnFrontier_54 (by decide) ?_))))
          have hi := ih (k + 1) (by omega) (by omega)
          rw [bz_t (by first | exact BE.t cb | exact BE.n hk.1 ⟨c25, c42⟩)] at hi
          exact hi
        ·
          refine j_aload_n hF dX8_isOnFrontier_18 rfl (j_get hF hM.1.1 fl_RX8_40 dX8_isOnFrontier_19 rfl (j_iload hF dX8_isOnFrontier_22 rfl (j_zald hF hM.1.2.2.2.2.2.2.2.2.2.2 dX8_isOnFrontier_24 (by omega) (fun ra1 rb1 => ?_))))
          refine j_if_eq hF 49 dX8_isOnFrontier_25 (by decide) (by omega) (fun c25 => ?_) (fun c25 => ?_)
          ·
            refine j_iconst hF dX8_isOnFrontier_49 (j_istore_n hF dX8_isOnFrontier_50 (Nat.le_of_ble_eq_true rfl) rfl (j_iinc hF dX8_isOnFrontier_51 rfl (Nat.le_of_ble_eq_true rfl) rfl (j_goto hF 5 dX8_isOnFrontier_54 (by decide) ?_)))
            have hi := ih (k + 1) (by omega) (by omega)
            rw [bz_f (BE.f cb (by first | exact (fun h => h.1 c25) | exact (fun h => c42 h.2)))] at hi
            exact hi
          ·
            refine j_aload_n hF dX8_isOnFrontier_28 rfl (j_get hF hM.1.1 fl_RX8_37 dX8_isOnFrontier_29 rfl (j_iload hF dX8_isOnFrontier_32 rfl (j_iald hF hM.1.2.2.2.2.2.2.2.2.2.1 dX8_isOnFrontier_34 (by omega) (fun ra2 rb2 => ?_))))
            refine j_sipush hF dX8_isOnFrontier_35 (by decide) (j_iload_n hF dX8_isOnFrontier_38 rfl (j_imul hF dX8_isOnFrontier_39 (j_iload_n hF dX8_isOnFrontier_40 rfl (j_iadd hF dX8_isOnFrontier_41 (j_icmp_ne hF 49 dX8_isOnFrontier_42 (by decide) (by omega) (fun c42 => ?_) (fun c42 => ?_))))))
            ·
              refine j_iconst hF dX8_isOnFrontier_49 (j_istore_n hF dX8_isOnFrontier_50 (Nat.le_of_ble_eq_true rfl) rfl (j_iinc hF dX8_isOnFrontier_51 rfl (Nat.le_of_ble_eq_true rfl) rfl (j_goto hF 5 dX8_isOnFrontier_54 (by decide) ?_)))
              have hi := ih (k + 1) (by omega) (by omega)
              rw [bz_f (BE.f cb (by first | exact (fun h => h.1 c25) | exact (fun h => c42 h.2)))] at hi
              exact hi
            ·
              refine j_iconst hF dX8_isOnFrontier_45 (j_goto hF 50 dX8_isOnFrontier_46 (by decide) (j_istore_n hF dX8_isOnFrontier_50 (Nat.le_of_ble_eq_true rfl) rfl (j_iinc hF dX8_isOnFrontier_51 rfl (Nat.le_of_ble_eq_true rfl) rfl (j_goto hF 5 dX8_isOnFrontier_54 (by decide) ?_))))
              have hi := ih (k + 1) (by omega) (by omega)
              rw [bz_t (by first | exact BE.t cb | exact BE.n hk.1 ⟨c25, c42⟩)] at hi
              exact hi
  have h0 := LL (as.toNat + 1) 0 (by omega) (by omega)
  rw [bz_f (BE.z _)] at h0
  exact h0

set_option maxRecDepth 100000 in
set_option maxHeartbeats 4000000 in
theorem c_X8_nextAt {X : Hp} {ad : Nat → Nat} {r pf : Int → Int} {sv : Int} {er sn lw rc wt : Int → Int} {wg : Int} {ls ac fi : Int → Int} {as : Int} {hh : Int64} (hM : MM X ad r pf sv er sn lw rc wt wg ls ac fi as hh) {w nd : Int} (hFI : FI r w ac fi as) (hw : 0 ≤ w ∧ w ≤ 1) (hA : AS r) (hT : AT r) (hn : 0 ≤ nd ∧ nd < 16) : Ct yX8_nextAt cX8_nextAt 6 (some .int) 1 24 [.ref (ad 0), vi w, vi nd] X 0 0 (fun rv X' => rv = some (vi (nxt r w nd)) ∧ X' = X) := by
  refine Ct.of (by decide +kernel) [some (.ref (ad 0)), some (vi w), some (vi nd), none, none, none] rfl (Nat.le_of_ble_eq_true rfl) (fun φ hF hR => ?_)
  have hM := hM.g
  have a0 := hA w hw.1 (by omega)
  refine j_iconst hF dX8_nextAt_0 (j_istore_n hF dX8_nextAt_1 (Nat.le_of_ble_eq_true rfl) rfl (j_bipush hF dX8_nextAt_2 (by decide) (j_iload_n hF dX8_nextAt_4 rfl (j_imul hF dX8_nextAt_5 (j_istore hF dX8_nextAt_6 (Nat.le_of_ble_eq_true rfl) rfl ?_)))))
  have LL : ∀ (n : Nat) (k b : Int), (12 * w + r (307 + w) - k).toNat < n → 12 * w ≤ k ∧ k ≤ 12 * w + r (307 + w) → NX r w nd k b → Jd φ X 0 0 8 [some (.ref (ad 0)), some (vi w), some (vi nd), some (vi b), some (vi k), none] [] := by
    intro n
    induction n with
    | zero => intro k b hfu; exact absurd hfu (by omega)
    | succ n ih =>
      intro k b hfu hk hX
      refine j_iload hF dX8_nextAt_8 rfl (j_bipush hF dX8_nextAt_10 (by decide) (j_iload_n hF dX8_nextAt_12 rfl (j_imul hF dX8_nextAt_13 (j_aload_n hF dX8_nextAt_14 rfl (j_get hF hM.1.1 fl_RX8_8 dX8_nextAt_15 rfl ?_)))))
      refine j_sipush hF dX8_nextAt_18 (by decide) (j_iload_n hF dX8_nextAt_21 rfl (j_iadd hF dX8_nextAt_22 (j_iald hF hM.1.2.1 dX8_nextAt_23 (by omega) (fun ra1 rb1 => ?_))))
      refine j_iadd hF dX8_nextAt_24 (j_icmp_ge hF 90 dX8_nextAt_25 (by decide) (by omega) (fun c25 => ?_) (fun c25 => ?_))
      ·
        refine j_iload_n hF dX8_nextAt_90 rfl (j_iret hF hR dX8_nextAt_91 (by omega) (by omega) ?_)
        have ek : k = 12 * w + r (307 + w) := by omega
        subst ek
        exact ⟨sv_eq (nxt_eq hX).symm, rfl⟩
      ·
        have t0 := hT k (by omega) (by omega)
        have b0 := hX.rg
        refine j_aload_n hF dX8_nextAt_28 rfl (j_get hF hM.1.1 fl_RX8_8 dX8_nextAt_29 rfl (j_sipush hF dX8_nextAt_32 (by decide) (j_iload hF dX8_nextAt_35 rfl (j_iadd hF dX8_nextAt_37 (j_iald hF hM.1.2.1 dX8_nextAt_38 (by omega) (fun ra2 rb2 => ?_))))))
        refine j_istore hF dX8_nextAt_39 (Nat.le_of_ble_eq_true rfl) rfl (j_aload_n hF dX8_nextAt_41 rfl (j_get hF hM.1.1 fl_RX8_8 dX8_nextAt_42 rfl (j_sipush hF dX8_nextAt_45 (by decide) (j_iload hF dX8_nextAt_48 rfl (j_iadd hF dX8_nextAt_50 ?_)))))
        refine j_iald hF hM.1.2.1 dX8_nextAt_51 (by omega) (fun ra3 rb3 => ?_)
        refine j_iload_n hF dX8_nextAt_52 rfl (j_icmp_ne hF 82 dX8_nextAt_53 (by decide) (by omega) (fun c53 => ?_) (fun c53 => ?_))
        ·
          refine j_iload_n hF dX8_nextAt_82 rfl (j_istore_n hF dX8_nextAt_83 (Nat.le_of_ble_eq_true rfl) rfl (j_iinc hF dX8_nextAt_84 rfl (Nat.le_of_ble_eq_true rfl) rfl (j_goto hF 8 dX8_nextAt_87 (by decide) ?_)))
          refine j_unset 5 ?_
          first
            | exact ih (k + 1) _ (by omega) (by omega) (hX.take hk.1 t0 c53 c74 (Or.inl c58))
            | exact ih (k + 1) _ (by omega) (by omega) (hX.take hk.1 t0 c53 c74 (Or.inr c64))
            | exact ih (k + 1) _ (by omega) (by omega) (hX.keep (fun _ g => absurd g c74))
            | exact ih (k + 1) _ (by omega) (by omega) (hX.keep (fun _ _ => ⟨c58, c64⟩))
            | exact ih (k + 1) _ (by omega) (by omega) (hX.keep (fun g _ => absurd g c53))
        ·
          refine j_iload_n hF dX8_nextAt_56 rfl (j_iconst hF dX8_nextAt_57 (j_icmp_eq hF 67 dX8_nextAt_58 (by decide) (by omega) (fun c58 => ?_) (fun c58 => ?_)))
          ·
            refine j_aload_n hF dX8_nextAt_67 rfl (j_iload_n hF dX8_nextAt_68 rfl (j_iload hF dX8_nextAt_69 rfl (j_callV hF (c_X8_isOnFrontier hM.1 hFI hn t0) ms_X8_isOnFrontier mv_X8_isOnFrontier lk_RX8_156 dX8_nextAt_71 hM.1.1 rfl rfl rfl (by simp [Value.category]) ⟨⟨(Nat.le_of_ble_eq_true rfl), (Nat.le_of_ble_eq_true rfl)⟩, by omega, by omega⟩ (fun v4 X4 hp4 hE4 => ?_))))
            obtain ⟨rfl, he4⟩ := hp4; obtain rfl := he4.symm
            refine j_b_eq hF 82 dX8_nextAt_74 (by decide) (fun c74 => ?_) (fun c74 => ?_)
            ·
              refine j_iload_n hF dX8_nextAt_82 rfl (j_istore_n hF dX8_nextAt_83 (Nat.le_of_ble_eq_true rfl) rfl (j_iinc hF dX8_nextAt_84 rfl (Nat.le_of_ble_eq_true rfl) rfl (j_goto hF 8 dX8_nextAt_87 (by decide) ?_)))
              refine j_unset 5 ?_
              first
                | exact ih (k + 1) _ (by omega) (by omega) (hX.take hk.1 t0 c53 c74 (Or.inl c58))
                | exact ih (k + 1) _ (by omega) (by omega) (hX.take hk.1 t0 c53 c74 (Or.inr c64))
                | exact ih (k + 1) _ (by omega) (by omega) (hX.keep (fun _ g => absurd g c74))
                | exact ih (k + 1) _ (by omega) (by omega) (hX.keep (fun _ _ => ⟨c58, c64⟩))
                | exact ih (k + 1) _ (by omega) (by omega) (hX.keep (fun g _ => absurd g c53))
            ·
              refine j_iload hF dX8_nextAt_77 rfl (j_goto hF 83 dX8_nextAt_79 (by decide) (j_istore_n hF dX8_nextAt_83 (Nat.le_of_ble_eq_true rfl) rfl (j_iinc hF dX8_nextAt_84 rfl (Nat.le_of_ble_eq_true rfl) rfl (j_goto hF 8 dX8_nextAt_87 (by decide) ?_))))
              refine j_unset 5 ?_
              first
                | exact ih (k + 1) _ (by omega) (by omega) (hX.take hk.1 t0 c53 c74 (Or.inl c58))
                | exact ih (k + 1) _ (by omega) (by omega) (hX.take hk.1 t0 c53 c74 (Or.inr c64))
                | exact ih (k + 1) _ (by omega) (by omega) (hX.keep (fun _ g => absurd g c74))
                | exact ih (k + 1) _ (by omega) (by omega) (hX.keep (fun _ _ => ⟨c58, c64⟩))
                | exact ih (k + 1) _ (by omega) (by omega) (hX.keep (fun g _ => absurd g c53))
          ·
            refine j_iload hF dX8_nextAt_61 rfl (j_iload_n hF dX8_nextAt_63 rfl (j_icmp_ge hF 82 dX8_nextAt_64 (by decide) (by omega) (fun c64 => ?_) (fun c64 => ?_)))
            ·
              refine j_iload_n hF dX8_nextAt_82 rfl (j_istore_n hF dX8_nextAt_83 (Nat.le_of_ble_eq_true rfl) rfl (j_iinc hF dX8_nextAt_84 rfl (Nat.le_of_ble_eq_true rfl) rfl (j_goto hF 8 dX8_nextAt_87 (by decide) ?_)))
              refine j_unset 5 ?_
              first
                | exact ih (k + 1) _ (by omega) (by omega) (hX.take hk.1 t0 c53 c74 (Or.inl c58))
                | exact ih (k + 1) _ (by omega) (by omega) (hX.take hk.1 t0 c53 c74 (Or.inr c64))
                | exact ih (k + 1) _ (by omega) (by omega) (hX.keep (fun _ g => absurd g c74))
                | exact ih (k + 1) _ (by omega) (by omega) (hX.keep (fun _ _ => ⟨c58, c64⟩))
                | exact ih (k + 1) _ (by omega) (by omega) (hX.keep (fun g _ => absurd g c53))
            ·
              refine j_aload_n hF dX8_nextAt_67 rfl (j_iload_n hF dX8_nextAt_68 rfl (j_iload hF dX8_nextAt_69 rfl (j_callV hF (c_X8_isOnFrontier hM.1 hFI hn t0) ms_X8_isOnFrontier mv_X8_isOnFrontier lk_RX8_156 dX8_nextAt_71 hM.1.1 rfl rfl rfl (by simp [Value.category]) ⟨⟨(Nat.le_of_ble_eq_true rfl), (Nat.le_of_ble_eq_true rfl)⟩, by omega, by omega⟩ (fun v5 X5 hp5 hE5 => ?_))))
              obtain ⟨rfl, he5⟩ := hp5; obtain rfl := he5.symm
              refine j_b_eq hF 82 dX8_nextAt_74 (by decide) (fun c74 => ?_) (fun c74 => ?_)
              ·
                refine j_iload_n hF dX8_nextAt_82 rfl (j_istore_n hF dX8_nextAt_83 (Nat.le_of_ble_eq_true rfl) rfl (j_iinc hF dX8_nextAt_84 rfl (Nat.le_of_ble_eq_true rfl) rfl (j_goto hF 8 dX8_nextAt_87 (by decide) ?_)))
                refine j_unset 5 ?_
                first
                  | exact ih (k + 1) _ (by omega) (by omega) (hX.take hk.1 t0 c53 c74 (Or.inl c58))
                  | exact ih (k + 1) _ (by omega) (by omega) (hX.take hk.1 t0 c53 c74 (Or.inr c64))
                  | exact ih (k + 1) _ (by omega) (by omega) (hX.keep (fun _ g => absurd g c74))
                  | exact ih (k + 1) _ (by omega) (by omega) (hX.keep (fun _ _ => ⟨c58, c64⟩))
                  | exact ih (k + 1) _ (by omega) (by omega) (hX.keep (fun g _ => absurd g c53))
              ·
                refine j_iload hF dX8_nextAt_77 rfl (j_goto hF 83 dX8_nextAt_79 (by decide) (j_istore_n hF dX8_nextAt_83 (Nat.le_of_ble_eq_true rfl) rfl (j_iinc hF dX8_nextAt_84 rfl (Nat.le_of_ble_eq_true rfl) rfl (j_goto hF 8 dX8_nextAt_87 (by decide) ?_))))
                refine j_unset 5 ?_
                first
                  | exact ih (k + 1) _ (by omega) (by omega) (hX.take hk.1 t0 c53 c74 (Or.inl c58))
                  | exact ih (k + 1) _ (by omega) (by omega) (hX.take hk.1 t0 c53 c74 (Or.inr c64))
                  | exact ih (k + 1) _ (by omega) (by omega) (hX.keep (fun _ g => absurd g c74))
                  | exact ih (k + 1) _ (by omega) (by omega) (hX.keep (fun _ _ => ⟨c58, c64⟩))
                  | exact ih (k + 1) _ (by omega) (by omega) (hX.keep (fun g _ => absurd g c53))
  exact LL ((r (307 + w)).toNat + 1) (12 * w) (-1) (by omega) (by omega) (NX.z _ _ _)

set_option maxRecDepth 100000 in
set_option maxHeartbeats 4000000 in
theorem c_X8_frontierAt {X : Hp} {ad : Nat → Nat} {r pf : Int → Int} {sv : Int} {er sn lw rc wt : Int → Int} {wg : Int} {ls ac fi : Int → Int} {as : Int} {hh : Int64} (hM : MM X ad r pf sv er sn lw rc wt wg ls ac fi as hh) {w x : Int} (hFI : FI r w ac fi as) (hx : -2147483648 ≤ x ∧ x ≤ 2147483647) : Ct yX8_frontierAt cX8_frontierAt 5 (some .int) 0 0 [.ref (ad 0), vi x] X 0 0 (fun rv X' => rv = some (vi (if x = -1 then cf (oF r w) 16000 else frAt r w x)) ∧ X' = X) := by
  refine Ct.of (by decide +kernel) [some (.ref (ad 0)), some (vi x), none, none, none] rfl (Nat.le_of_ble_eq_true rfl) (fun φ hF hR => ?_)
  have hM := hM.g
  have a0 := hFI.1.1
  refine j_iconst hF dX8_frontierAt_0 (j_istore_n hF dX8_frontierAt_1 (Nat.le_of_ble_eq_true rfl) rfl (j_iconst hF dX8_frontierAt_2 (j_istore_n hF dX8_frontierAt_3 (Nat.le_of_ble_eq_true rfl) rfl (j_iconst hF dX8_frontierAt_4 (j_istore hF dX8_frontierAt_5 (Nat.le_of_ble_eq_true rfl) rfl ?_)))))
  have LL : ∀ (n : Nat) (k f : Int), (as - k).toNat < n → 0 ≤ k ∧ k ≤ as → FK ac fi x k f → Jd φ X 0 0 7 [some (.ref (ad 0)), some (vi x), some (vi (cf fi k.toNat)), some (vi f), some (vi k)] [] := by
    intro n
    induction n with
    | zero => intro k f hfu; exact absurd hfu (by omega)
    | succ n ih =>
      intro k f hfu hk hK
      refine j_iload hF dX8_frontierAt_7 rfl (j_aload_n hF dX8_frontierAt_9 rfl (j_get hF hM.1.1 fl_RX8_149 dX8_frontierAt_10 rfl (j_icmp_ge hF 52 dX8_frontierAt_13 (by decide) (by omega) (fun c13 => ?_) (fun c13 => ?_))))
      ·
        refine j_iload_n hF dX8_frontierAt_52 rfl (j_iconst hF dX8_frontierAt_53 (j_icmp_ne hF 61 dX8_frontierAt_54 (by decide) (by omega) (fun c54 => ?_) (fun c54 => ?_)))
        ·
          refine j_iload_n hF dX8_frontierAt_61 rfl (j_iret hF hR dX8_frontierAt_62 (by omega) (by omega) ?_)
          have ek : k = as := by omega
          subst ek
          first | (rw [if_pos c54]; exact ⟨sv_eq hFI.num, rfl⟩) | (rw [if_neg c54]; exact ⟨sv_eq (frAt_eq (hK.fin hFI)).symm, rfl⟩)
        ·
          refine j_iload_n hF dX8_frontierAt_57 rfl (j_goto hF 62 dX8_frontierAt_58 (by decide) (j_iret hF hR dX8_frontierAt_62 (by omega) (by omega) ?_))
          have ek : k = as := by omega
          subst ek
          first | (rw [if_pos c54]; exact ⟨sv_eq hFI.num, rfl⟩) | (rw [if_neg c54]; exact ⟨sv_eq (frAt_eq (hK.fin hFI)).symm, rfl⟩)
      ·
        have f0 := hFI.2 k hk.1 (by omega)
        have f1 := bz_rg (onF r w (ac k))
        have n1 := cf_rg (f := fi) k.toNat (fun j j1 j2 => by have := hFI.2 j j1 (by omega); have := bz_rg (onF r w (ac j)); omega)
        refine j_aload_n hF dX8_frontierAt_16 rfl (j_get hF hM.1.1 fl_RX8_40 dX8_frontierAt_17 rfl (j_iload hF dX8_frontierAt_20 rfl (j_zald hF hM.1.2.2.2.2.2.2.2.2.2.2 dX8_frontierAt_22 (by omega) (fun ra1 rb1 => ?_))))
        refine j_if_eq hF 46 dX8_frontierAt_23 (by decide) (by omega) (fun c23 => ?_) (fun c23 => ?_)
        ·
          refine j_iinc hF dX8_frontierAt_46 rfl (Nat.le_of_ble_eq_true rfl) rfl (j_goto hF 7 dX8_frontierAt_49 (by decide) ?_)
          have et : (k + 1).toNat = k.toNat + 1 := by omega
          have ek : ((k.toNat : Nat) : Int) = k := by omega
          first
            | (have hi := ih (k + 1) _ (by omega) (by omega) (FK.hit hk.1 c23 c28); rw [et, cf, ek, show fi k = 1 by omega] at hi; exact hi)
            | (have hi := ih (k + 1) _ (by omega) (by omega) (hK.miss (fun _ => c28)); rw [et, cf, ek, show fi k = 1 by omega] at hi; exact hi)
            | (have hi := ih (k + 1) _ (by omega) (by omega) (hK.miss (fun g => absurd c23 g)); rw [et, cf, ek, c23, Int.add_zero] at hi; exact hi)
        ·
          refine j_iload_n hF dX8_frontierAt_26 rfl (j_iload_n hF dX8_frontierAt_27 rfl (j_icmp_ne hF 41 dX8_frontierAt_28 (by decide) (by omega) (fun c28 => ?_) (fun c28 => ?_)))
          ·
            refine j_iload_n hF dX8_frontierAt_41 rfl (j_istore_n hF dX8_frontierAt_42 (Nat.le_of_ble_eq_true rfl) rfl (j_iinc hF dX8_frontierAt_43 rfl (Nat.le_of_ble_eq_true rfl) rfl (j_iinc hF dX8_frontierAt_46 rfl (Nat.le_of_ble_eq_true rfl) rfl (j_goto hF 7 dX8_frontierAt_49 (by decide) ?_))))
            have et : (k + 1).toNat = k.toNat + 1 := by omega
            have ek : ((k.toNat : Nat) : Int) = k := by omega
            first
              | (have hi := ih (k + 1) _ (by omega) (by omega) (FK.hit hk.1 c23 c28); rw [et, cf, ek, show fi k = 1 by omega] at hi; exact hi)
              | (have hi := ih (k + 1) _ (by omega) (by omega) (hK.miss (fun _ => c28)); rw [et, cf, ek, show fi k = 1 by omega] at hi; exact hi)
              | (have hi := ih (k + 1) _ (by omega) (by omega) (hK.miss (fun g => absurd c23 g)); rw [et, cf, ek, c23, Int.add_zero] at hi; exact hi)
          ·
            refine j_aload_n hF dX8_frontierAt_31 rfl (j_get hF hM.1.1 fl_RX8_37 dX8_frontierAt_32 rfl (j_iload hF dX8_frontierAt_35 rfl (j_iald hF hM.1.2.2.2.2.2.2.2.2.2.1 dX8_frontierAt_37 (by omega) (fun ra2 rb2 => ?_))))
            refine j_goto hF 42 dX8_frontierAt_38 (by decide) (j_istore_n hF dX8_frontierAt_42 (Nat.le_of_ble_eq_true rfl) rfl (j_iinc hF dX8_frontierAt_43 rfl (Nat.le_of_ble_eq_true rfl) rfl (j_iinc hF dX8_frontierAt_46 rfl (Nat.le_of_ble_eq_true rfl) rfl (j_goto hF 7 dX8_frontierAt_49 (by decide) ?_))))
            have et : (k + 1).toNat = k.toNat + 1 := by omega
            have ek : ((k.toNat : Nat) : Int) = k := by omega
            first
              | (have hi := ih (k + 1) _ (by omega) (by omega) (FK.hit hk.1 c23 c28); rw [et, cf, ek, show fi k = 1 by omega] at hi; exact hi)
              | (have hi := ih (k + 1) _ (by omega) (by omega) (hK.miss (fun _ => c28)); rw [et, cf, ek, show fi k = 1 by omega] at hi; exact hi)
              | (have hi := ih (k + 1) _ (by omega) (by omega) (hK.miss (fun g => absurd c23 g)); rw [et, cf, ek, c23, Int.add_zero] at hi; exact hi)
  exact LL (as.toNat + 1) 0 (-1) (by omega) (by omega) (FK.z _ _ _)

set_option maxRecDepth 100000 in
set_option maxHeartbeats 4000000 in
theorem c_X8_active {X : Hp} {ad : Nat → Nat} {r pf : Int → Int} {sv : Int} {er sn lw rc wt : Int → Int} {wg : Int} {ls ac fi : Int → Int} {as : Int} {hh : Int64} (hM : MM X ad r pf sv er sn lw rc wt wg ls ac fi as hh) {w : Int} (hE : EI er) (h_w : -2147483648 ≤ w ∧ w ≤ 2147483647) : Ct yX8_active cX8_active 2 (some .int) 2 42 [.ref (ad 0), vi w] X 0 0 (fun rv X' => rv = some (vi (sp_active (r, pf, sv, er) w).1) ∧ MX X X' ad (sp_active (r, pf, sv, er) w).2) := by
  refine Ct.of (by decide +kernel) [some (.ref (ad 0)), some (vi w)] rfl (Nat.le_of_ble_eq_true rfl) (fun φ hF hR => ?_)
  have hM := hM.g
  refine j_iload_n hF dX8_active_0 rfl (j_callS hF (c_X8_isWorker (by omega)) ms_X8_isWorker mt_X8_isWorker lk_RX8_111 dX8_active_1 rfl rfl rfl (by simp [Value.category]) ⟨⟨(Nat.le_of_ble_eq_true rfl), (Nat.le_of_ble_eq_true rfl)⟩, by omega, by omega⟩ (fun v1 X1 hp1 hE1 => ?_))
  obtain ⟨rfl, he1⟩ := hp1; obtain rfl := he1.symm
  refine j_b_ne hF 14 dX8_active_4 (by decide) (fun c4 => ?_) (fun c4 => ?_)
  ·
    refine j_aload_n hF dX8_active_14 rfl (j_iload_n hF dX8_active_15 rfl (j_callV hF (c_X8_findsActive hM.1 (by omega)) ms_X8_findsActive mv_X8_findsActive lk_RX8_152 dX8_active_16 hM.1.1 rfl rfl rfl (by simp [Value.category]) ⟨⟨(Nat.le_of_ble_eq_true rfl), (Nat.le_of_ble_eq_true rfl)⟩, by omega, by omega⟩ (fun v2 X2 hp2 hE2 => ?_)))
    obtain ⟨rfl, ac2, fi2, as2, hM1, hA, hf⟩ := hp2
    have hM := hM.tr hM1
    refine j_aload_n hF dX8_active_19 rfl (j_get hF hM.1.1 fl_RX8_149 dX8_active_20 rfl (j_iret hF hR dX8_active_23 (by omega) (by omega) ?_))
    refine PU ?_ (MX.of hM)
    unfold sp_active
    first | (refine (pif_t c4).trans ?_; rw [hA.2.1]; rfl) | exact pif_f c4
  ·
    refine j_aload_n hF dX8_active_7 rfl (j_bipush hF dX8_active_8 (by decide) (j_callV hF (c_X8_fails hM.1 (by omega) hE) ms_X8_fails mv_X8_fails lk_RX8_52 dX8_active_10 hM.1.1 rfl rfl rfl (by simp [Value.category]) ⟨⟨(Nat.le_of_ble_eq_true rfl), (Nat.le_of_ble_eq_true rfl)⟩, by omega, by omega⟩ (fun v3 X3 hp3 hE3 => ?_)))
    obtain ⟨rfl, hM1⟩ := hp3
    have hM := hM.tr hM1
    refine j_iret hF hR dX8_active_13 (by omega) (by omega) ?_
    refine PU ?_ (MX.of hM)
    unfold sp_active
    first | (refine (pif_t c4).trans ?_; rw [hA.2.1]; rfl) | exact pif_f c4

set_option maxRecDepth 100000 in
set_option maxHeartbeats 4000000 in
theorem c_X8_frontier {X : Hp} {ad : Nat → Nat} {r pf : Int → Int} {sv : Int} {er sn lw rc wt : Int → Int} {wg : Int} {ls ac fi : Int → Int} {as : Int} {hh : Int64} (hM : MM X ad r pf sv er sn lw rc wt wg ls ac fi as hh) {w x : Int} (hG : GI r) (hE : EI er) (h_w : -2147483648 ≤ w ∧ w ≤ 2147483647) (h_x : -2147483648 ≤ x ∧ x ≤ 2147483647) : Ct yX8_frontier cX8_frontier 3 (some .int) 4 99 [.ref (ad 0), vi w, vi x] X 0 0 (fun rv X' => rv = some (vi (sp_frontier (r, pf, sv, er) w x).1) ∧ MX X X' ad (sp_frontier (r, pf, sv, er) w x).2) := by
  refine Ct.of (by decide +kernel) [some (.ref (ad 0)), some (vi w), some (vi x)] rfl (Nat.le_of_ble_eq_true rfl) (fun φ hF hR => ?_)
  have hM := hM.g
  refine j_iload_n hF dX8_frontier_0 rfl (j_callS hF (c_X8_isWorker (by omega)) ms_X8_isWorker mt_X8_isWorker lk_RX8_111 dX8_frontier_1 rfl rfl rfl (by simp [Value.category]) ⟨⟨(Nat.le_of_ble_eq_true rfl), (Nat.le_of_ble_eq_true rfl)⟩, by omega, by omega⟩ (fun v1 X1 hp1 hE1 => ?_))
  obtain ⟨rfl, he1⟩ := hp1; obtain rfl := he1.symm
  refine j_b_eq hF 12 dX8_frontier_4 (by decide) (fun c4 => ?_) (fun c4 => ?_)
  ·
    refine j_aload_n hF dX8_frontier_12 rfl (j_bipush hF dX8_frontier_13 (by decide) (j_callV hF (c_X8_fails hM.1 (by omega) hE) ms_X8_fails mv_X8_fails lk_RX8_52 dX8_frontier_15 hM.1.1 rfl rfl rfl (by simp [Value.category]) ⟨⟨(Nat.le_of_ble_eq_true rfl), (Nat.le_of_ble_eq_true rfl)⟩, by omega, by omega⟩ (fun v2 X2 hp2 hE2 => ?_)))
    obtain ⟨rfl, hM1⟩ := hp2
    have hM := hM.tr hM1
    refine j_iret hF hR dX8_frontier_18 (by omega) (by omega) ?_
    refine PU ?_ (MX.of hM)
    unfold sp_frontier
    first | exact pif_t ⟨c4, c9⟩ | exact pif_f (fun h => c4 h.1) | exact pif_f (fun h => absurd h.2 (Int.not_le.mpr c9))
  ·
    refine j_iload_n hF dX8_frontier_7 rfl (j_iconst hF dX8_frontier_8 (j_icmp_ge hF 19 dX8_frontier_9 (by decide) (by omega) (fun c9 => ?_) (fun c9 => ?_)))
    ·
      refine j_aload_n hF dX8_frontier_19 rfl (j_iload_n hF dX8_frontier_20 rfl (j_callV hF (c_X8_findsFrontier hM.1 hG (by omega)) ms_X8_findsFrontier mv_X8_findsFrontier lk_RX8_159 dX8_frontier_21 hM.1.1 rfl rfl rfl (by simp [Value.category]) ⟨⟨(Nat.le_of_ble_eq_true rfl), (Nat.le_of_ble_eq_true rfl)⟩, by omega, by omega⟩ (fun v3 X3 hp3 hE3 => ?_)))
      obtain ⟨rfl, rc3, wt3, wg3, ls3, ac3, fi3, as3, hM1, hFI⟩ := hp3
      have hM := hM.tr hM1
      refine j_aload_n hF dX8_frontier_24 rfl (j_iload_n hF dX8_frontier_25 rfl (j_callV hF (c_X8_frontierAt hM.1 hFI (by omega)) ms_X8_frontierAt mv_X8_frontierAt lk_RX8_168 dX8_frontier_26 hM.1.1 rfl rfl rfl (by simp [Value.category]) ⟨⟨(Nat.le_of_ble_eq_true rfl), (Nat.le_of_ble_eq_true rfl)⟩, by omega, by omega⟩ (fun v4 X4 hp4 hE4 => ?_)))
      obtain ⟨rfl, he4⟩ := hp4; obtain rfl := he4.symm
      refine j_iret hF hR dX8_frontier_29 (by omega) (by omega) ?_
      refine PU ?_ (MX.of hM)
      unfold sp_frontier
      first | exact pif_t ⟨c4, c9⟩ | exact pif_f (fun h => c4 h.1) | exact pif_f (fun h => absurd h.2 (Int.not_le.mpr c9))
    ·
      refine j_aload_n hF dX8_frontier_12 rfl (j_bipush hF dX8_frontier_13 (by decide) (j_callV hF (c_X8_fails hM.1 (by omega) hE) ms_X8_fails mv_X8_fails lk_RX8_52 dX8_frontier_15 hM.1.1 rfl rfl rfl (by simp [Value.category]) ⟨⟨(Nat.le_of_ble_eq_true rfl), (Nat.le_of_ble_eq_true rfl)⟩, by omega, by omega⟩ (fun v5 X5 hp5 hE5 => ?_)))
      obtain ⟨rfl, hM1⟩ := hp5
      have hM := hM.tr hM1
      refine j_iret hF hR dX8_frontier_18 (by omega) (by omega) ?_
      refine PU ?_ (MX.of hM)
      unfold sp_frontier
      first | exact pif_t ⟨c4, c9⟩ | exact pif_f (fun h => c4 h.1) | exact pif_f (fun h => absurd h.2 (Int.not_le.mpr c9))

set_option maxRecDepth 100000 in
set_option maxHeartbeats 4000000 in
theorem c_X8_deliverable {X : Hp} {ad : Nat → Nat} {r pf : Int → Int} {sv : Int} {er sn lw rc wt : Int → Int} {wg : Int} {ls ac fi : Int → Int} {as : Int} {hh : Int64} (hM : MM X ad r pf sv er sn lw rc wt wg ls ac fi as hh) {w n : Int} (hG : GI r) (hE : EI er) (hA : AS r) (hT : AT r) (h_w : -2147483648 ≤ w ∧ w ≤ 2147483647) (h_n : -2147483648 ≤ n ∧ n ≤ 2147483647) : Ct yX8_deliverable cX8_deliverable 3 (some .int) 4 99 [.ref (ad 0), vi w, vi n] X 0 0 (fun rv X' => rv = some (vi (sp_deliverable (r, pf, sv, er) w n).1) ∧ MX X X' ad (sp_deliverable (r, pf, sv, er) w n).2) := by
  refine Ct.of (by decide +kernel) [some (.ref (ad 0)), some (vi w), some (vi n)] rfl (Nat.le_of_ble_eq_true rfl) (fun φ hF hR => ?_)
  have hM := hM.g
  have g0 := hG.1
  refine j_iload_n hF dX8_deliverable_0 rfl (j_callS hF (c_X8_isWorker (by omega)) ms_X8_isWorker mt_X8_isWorker lk_RX8_111 dX8_deliverable_1 rfl rfl rfl (by simp [Value.category]) ⟨⟨(Nat.le_of_ble_eq_true rfl), (Nat.le_of_ble_eq_true rfl)⟩, by omega, by omega⟩ (fun v1 X1 hp1 hE1 => ?_))
  obtain ⟨rfl, he1⟩ := hp1; obtain rfl := he1.symm
  refine j_b_eq hF 15 dX8_deliverable_4 (by decide) (fun c4 => ?_) (fun c4 => ?_)
  ·
    refine j_aload_n hF dX8_deliverable_15 rfl (j_bipush hF dX8_deliverable_16 (by decide) (j_callV hF (c_X8_fails hM.1 (by omega) hE) ms_X8_fails mv_X8_fails lk_RX8_52 dX8_deliverable_18 hM.1.1 rfl rfl rfl (by simp [Value.category]) ⟨⟨(Nat.le_of_ble_eq_true rfl), (Nat.le_of_ble_eq_true rfl)⟩, by omega, by omega⟩ (fun v2 X2 hp2 hE2 => ?_)))
    obtain ⟨rfl, hM1⟩ := hp2
    have hM := hM.tr hM1
    refine j_iret hF hR dX8_deliverable_21 (by omega) (by omega) ?_
    refine PU ?_ (MX.of hM)
    unfold sp_deliverable
    first | exact pif_t ⟨c4, c12⟩ | exact pif_f (fun h => c4 h.1) | exact pif_f (fun h => c12 h.2)
  ·
    refine j_aload_n hF dX8_deliverable_7 rfl (j_iload_n hF dX8_deliverable_8 rfl (j_callV hF (c_X8_isNode hM.1 hG (by omega)) ms_X8_isNode mv_X8_isNode lk_RX8_71 dX8_deliverable_9 hM.1.1 rfl rfl rfl (by simp [Value.category]) ⟨⟨(Nat.le_of_ble_eq_true rfl), (Nat.le_of_ble_eq_true rfl)⟩, by omega, by omega⟩ (fun v3 X3 hp3 hE3 => ?_)))
    obtain ⟨rfl, he3⟩ := hp3; obtain rfl := he3.symm
    refine j_b_ne hF 22 dX8_deliverable_12 (by decide) (fun c12 => ?_) (fun c12 => ?_)
    ·
      refine j_aload_n hF dX8_deliverable_22 rfl (j_iload_n hF dX8_deliverable_23 rfl (j_callV hF (c_X8_findsFrontier hM.1 hG (by omega)) ms_X8_findsFrontier mv_X8_findsFrontier lk_RX8_159 dX8_deliverable_24 hM.1.1 rfl rfl rfl (by simp [Value.category]) ⟨⟨(Nat.le_of_ble_eq_true rfl), (Nat.le_of_ble_eq_true rfl)⟩, by omega, by omega⟩ (fun v4 X4 hp4 hE4 => ?_)))
      obtain ⟨rfl, rc4, wt4, wg4, ls4, ac4, fi4, as4, hM1, hFI⟩ := hp4
      have hM := hM.tr hM1
      refine j_aload_n hF dX8_deliverable_27 rfl (j_iload_n hF dX8_deliverable_28 rfl (j_iload_n hF dX8_deliverable_29 rfl (j_callV hF (c_X8_nextAt hM.1 hFI (by omega) hA hT (by omega)) ms_X8_nextAt mv_X8_nextAt lk_RX8_162 dX8_deliverable_30 hM.1.1 rfl rfl rfl (by simp [Value.category]) ⟨⟨(Nat.le_of_ble_eq_true rfl), (Nat.le_of_ble_eq_true rfl)⟩, by omega, by omega⟩ (fun v5 X5 hp5 hE5 => ?_))))
      obtain ⟨rfl, he5⟩ := hp5; obtain rfl := he5.symm
      refine j_iret hF hR dX8_deliverable_33 (by omega) (by omega) ?_
      refine PU ?_ (MX.of hM)
      unfold sp_deliverable
      first | exact pif_t ⟨c4, c12⟩ | exact pif_f (fun h => c4 h.1) | exact pif_f (fun h => c12 h.2)
    ·
      refine j_aload_n hF dX8_deliverable_15 rfl (j_bipush hF dX8_deliverable_16 (by decide) (j_callV hF (c_X8_fails hM.1 (by omega) hE) ms_X8_fails mv_X8_fails lk_RX8_52 dX8_deliverable_18 hM.1.1 rfl rfl rfl (by simp [Value.category]) ⟨⟨(Nat.le_of_ble_eq_true rfl), (Nat.le_of_ble_eq_true rfl)⟩, by omega, by omega⟩ (fun v6 X6 hp6 hE6 => ?_)))
      obtain ⟨rfl, hM1⟩ := hp6
      have hM := hM.tr hM1
      refine j_iret hF hR dX8_deliverable_21 (by omega) (by omega) ?_
      refine PU ?_ (MX.of hM)
      unfold sp_deliverable
      first | exact pif_t ⟨c4, c12⟩ | exact pif_f (fun h => c4 h.1) | exact pif_f (fun h => c12 h.2)
