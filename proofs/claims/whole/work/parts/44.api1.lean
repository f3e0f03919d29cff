/-! ===== the calls, one by one: class and reference answer alike ===== -/
section A1
variable {M N : Mem}
theorem p_trace (h : Inv M N) : Ag (f_X5_trace M) (f_X6_trace N) := by
  obtain ⟨⟨S, n, Q, Z, hr⟩, e⟩ := h
  unfold f_X5_trace f_X6_trace
  rw [hr.2.2.2.2.2.2]
  exact Ag.mk _ ⟨⟨S, n, Q, Z, hr⟩, e⟩
theorem p_fault (h : Inv M N) : Ag (f_X5_fault M) (f_X6_fault N) := by
  unfold f_X5_fault f_X6_fault
  rw [h.2]
  exact Ag.mk _ h
theorem p_many (h : Inv M N) (x1 : Int32) : Ag (f_X5_many x1 M) (f_X6_many x1 N) := by
  have h0 := h
  obtain ⟨⟨S, n, Q, Z, ⟨hS, hO⟩, hR, hN, hD, hZ, e7, e8⟩, e9⟩ := h
  unfold f_X5_many f_X6_many
  rw [hR.1, hR.2.1, hR.2.2.1, e7, hD.2.1, hN.1, hN.2.1, hN.2.2.1, hD.2.2.1]
  by_cases h1 : x1 = 0
  · rw [if_pos h1, if_pos h1]; exact Ag.mk _ h0
  · rw [if_neg h1, if_neg h1]
    by_cases h2 : x1 = 1
    · rw [if_pos h2, if_pos h2]; exact Ag.mk _ h0
    · rw [if_neg h2, if_neg h2]
      by_cases h3 : x1 = 2
      · rw [if_pos h3, if_pos h3]; exact Ag.mk _ h0
      · rw [if_neg h3, if_neg h3]
        by_cases h4 : x1 = 3
        · rw [if_pos h4, if_pos h4]; exact Ag.mk _ h0
        · rw [if_neg h4, if_neg h4]
          by_cases h5 : x1 = 4
          · rw [if_pos h5, if_pos h5]; exact Ag.mk _ h0
          · rw [if_neg h5, if_neg h5]; exact Ag.mk _ h0
theorem p_drowse (h : Inv M N) (x1 x2 : Int32) : Ag (f_X5_drowse x1 x2 M) (f_X6_drowse x1 x2 N) := by
  have h0 := h
  obtain ⟨⟨S, n, Q, Z, hr⟩, e9⟩ := h
  have hS := hr.1.1
  have hR := hr.2.1
  have hN := hr.2.2.1
  have b1 := hS.1
  unfold f_X5_drowse f_X6_drowse
  rcases hs_cases hR hN hS x1 with ⟨h1, h2⟩ | ⟨k, hk, rfl, h1, h2⟩
  · rw [h1, h2, bd_some, bd_some, if_pos rfl, if_pos rfl]; exact Ag.mk _ h0
  · rw [h1, h2, bd_some, bd_some, if_neg i10, if_neg i10]
    rcases rg_cases x2 1 9 (l := 1) (h := 9) I_1 I_9 (by decide) (by decide) with h3 | ⟨h3, h4, v, rfl, h5, h6⟩
    · rw [w_out h3, bd_some, if_pos rfl]
      rcases h3 with h3 | ⟨h3, h4⟩
      · rw [if_pos (show x2 < 1 from h3)]; exact Ag.mk _ h0
      · rw [if_neg (show ¬ x2 < 1 from h3), if_neg (show ¬ x2 ≤ 9 from nle h4)]; exact Ag.mk _ h0
    · rw [w_in (lo := 1) (hi := 9) h3 h4, bd_some, if_neg i10, if_neg (show ¬ I (v : Int) < 1 from h3), if_pos (show I (v : Int) ≤ 9 from yle h4)]
      simp only [grd_ok (show k < 6 by omega) (show 6 ≤ 1000 by decide), ilt_eq, mlt_eq, I_tn (show k ≤ 2000000000 by omega)]
      have hc := (hR.2.2.2.1 k hk).2
      have hm := (hN.2.2.2.1 k hk).2
      rw [show M 3 k = I (S.2.2.2 1 k) from hc, hm]
      exact Ag.mk _ (Inv_of (Rel_su hr (j := 1) (i := k) (v := v) (by decide) (by omega) (fun _ => ⟨h5, h6⟩) (by omega) (by omega)) e9 (mu_nn (by decide)) (mu_nn (by decide)))
theorem p_tune (h : Inv M N) (x1 x2 : Int32) : Ag (f_X5_tune x1 x2 M) (f_X6_tune x1 x2 N) := by
  have h0 := h
  obtain ⟨⟨S, n, Q, Z, hr⟩, e9⟩ := h
  have hS := hr.1.1
  have hR := hr.2.1
  have hN := hr.2.2.1
  have b1 := hS.2.1
  unfold f_X5_tune f_X6_tune
  rcases ck_cases hR hN hS x1 with ⟨h1, h2⟩ | ⟨k, hk, rfl, h1, h2⟩
  · rw [h1, h2, bd_some, bd_some, if_pos rfl, if_pos rfl]; exact Ag.mk _ h0
  · rw [h1, h2, bd_some, bd_some, if_neg i10, if_neg i10]
    rcases rg_cases x2 1 9 (l := 1) (h := 9) I_1 I_9 (by decide) (by decide) with h3 | ⟨h3, h4, v, rfl, h5, h6⟩
    · rw [w_out h3, bd_some, if_pos rfl]
      rcases h3 with h3 | ⟨h3, h4⟩
      · rw [if_pos (show x2 < 1 from h3)]; exact Ag.mk _ h0
      · rw [if_neg (show ¬ x2 < 1 from h3), if_neg (show ¬ x2 ≤ 9 from nle h4)]; exact Ag.mk _ h0
    · rw [w_in (lo := 1) (hi := 9) h3 h4, bd_some, if_neg i10, if_neg (show ¬ I (v : Int) < 1 from h3), if_pos (show I (v : Int) ≤ 9 from yle h4)]
      simp only [grd_ok (show k < 4 by omega) (show 4 ≤ 1000 by decide), ilt_eq, mlt_eq, I_tn (show k ≤ 2000000000 by omega)]
      have hc := (hR.2.2.2.2 k hk).1
      have hm := (hN.2.2.2.2.1 k hk).1
      rw [show M 4 k = I (S.2.2.2 2 k) from hc, hm]
      exact Ag.mk _ (Inv_of (Rel_su hr (j := 2) (i := k) (v := v) (by decide) (by omega) (by omega) (fun _ => ⟨h5, h6⟩) (by omega)) e9 (mu_nn (by decide)) (mu_nn (by decide)))
theorem p_carry (h : Inv M N) (x1 x2 : Int32) : Ag (f_X5_carry x1 x2 M) (f_X6_carry x1 x2 N) := by
  have h0 := h
  obtain ⟨⟨S, n, Q, Z, hr⟩, e9⟩ := h
  have hS := hr.1.1
  have hR := hr.2.1
  have hN := hr.2.2.1
  have b1 := hS.2.1
  unfold f_X5_carry f_X6_carry
  rcases ck_cases hR hN hS x1 with ⟨h1, h2⟩ | ⟨k, hk, rfl, h1, h2⟩
  · rw [h1, h2, bd_some, bd_some, if_pos rfl, if_pos rfl]; exact Ag.mk _ h0
  · rw [h1, h2, bd_some, bd_some, if_neg i10, if_neg i10]
    rcases hs_cases hR hN hS x2 with ⟨h1, h2⟩ | ⟨v, hv, rfl, h1, h2⟩
    · rw [h1, h2, bd_some, bd_some, if_pos rfl, if_pos rfl]; exact Ag.mk _ h0
    · rw [h1, h2, bd_some, bd_some, if_neg i10, if_neg i10]
      simp only [grd_ok (show k < 4 by omega) (show 4 ≤ 1000 by decide), ilt_eq, mlt_eq, I_tn (show k ≤ 2000000000 by omega)]
      have hc := (hR.2.2.2.2 k hk).2.1
      have hm := (hN.2.2.2.2.1 k hk).2
      rw [show M 5 k = I (S.2.2.2 3 k) from hc, hm]
      exact Ag.mk _ (Inv_of (Rel_su hr (j := 3) (i := k) (v := v) (by decide) (by omega) (by omega) (by omega) (fun _ => hv)) e9 (mu_nn (by decide)) (mu_nn (by decide)))
theorem p_hears (h : Inv M N) (x1 x2 : Int32) : Ag (f_X5_hears x1 x2 M) (f_X6_hears x1 x2 N) := by
  have h0 := h
  obtain ⟨⟨S, n, Q, Z, hr⟩, e9⟩ := h
  have hS := hr.1.1
  have hR := hr.2.1
  have hN := hr.2.2.1
  have b1 := hS.2.1
  have b2 := hS.1
  unfold f_X5_hears f_X6_hears
  rcases hs_cases hR hN hS x1 with ⟨h1, h2⟩ | ⟨k, hk, rfl, h1, h2⟩
  · rw [h1, h2, bd_some, bd_some, if_pos rfl, if_pos rfl]; exact Ag.mk _ h0
  · rw [h1, h2, bd_some, bd_some, if_neg i10, if_neg i10]
    rcases ck_cases hR hN hS x2 with ⟨h1, h2⟩ | ⟨c, hc, rfl, h1, h2⟩
    · rw [h1, h2, bd_some, bd_some, if_pos rfl, if_pos rfl]; exact Ag.mk _ h0
    · have b3 := (hS.2.2.2.2 c hc).2.2.1
      rw [h1, h2, bd_some, bd_some, if_neg i10, if_neg i10, q_sound hR hS hc, bd_some, grd_ok (by omega) (by decide), grd_ok (by omega) (by decide), I_tn (by omega), show M 5 c = I (S.2.2.2 3 c) from (hR.2.2.2.2 c hc).2.1, (hN.2.2.2.2.1 c hc).2, q_heard hR (by omega) (by omega), bd_some, n_heardFrom hN hS hc (by omega) (by omega), bd_some]
      exact Ag.mk _ h0
theorem p_wall (h : Inv M N) (x1 : Int32) : Ag (f_X5_wall x1 M) (f_X6_wall x1 N) := by
  have h0 := h
  obtain ⟨⟨S, n, Q, Z, hr⟩, e9⟩ := h
  have hS := hr.1.1
  have hR := hr.2.1
  have hN := hr.2.2.1
  unfold f_X5_wall f_X6_wall
  rcases rg_cases x1 0 3 (l := 0) (h := 3) I_0 I_3 (by decide) (by decide) with h3 | ⟨h3, h4, v, rfl, h5, h6⟩
  · rw [w_out h3, bd_some, if_pos rfl]
    rcases h3 with h3 | ⟨h3, h4⟩
    · rw [if_pos (show x1 < 0 from h3)]; exact Ag.mk _ h0
    · rw [if_neg (show ¬ x1 < 0 from h3), if_neg (show ¬ x1 ≤ 3 from nle h4)]; exact Ag.mk _ h0
  · rw [w_in (lo := 0) (hi := 3) h3 h4, bd_some, if_neg i10, if_neg (show ¬ I (v : Int) < 0 from h3), if_pos (show I (v : Int) ≤ 3 from yle h4), c_stands hR hS, bd_some]
    by_cases hz : S.1 = 0
    · rw [if_pos hz, if_pos rfl, if_pos ((m_stands hN hS).mpr hz)]; exact Ag.mk _ h0
    · rw [if_neg hz, if_neg i10, if_neg (fun q => hz ((m_stands hN hS).mp q)), ilt_eq, ilt_eq, mlt_eq, mlt_eq, hR.2.2.1, hN.2.2.1]
      refine Ag.mk _ (Inv_of (S := (S.1, S.2.1, v, S.2.2.2)) (n := n) (Q := Q) (Z := Z) ?_ e9 (mu_nn (by decide)) (mu_f (by decide)))
      obtain ⟨⟨a1, a2⟩, a3, a4, a5, a6, a7, a8⟩ := hr
      refine ⟨⟨⟨a1.1, a1.2.1, h6, a1.2.2.2⟩, a2⟩, ⟨?_, ?_, ?_, fun q hq => ?_, fun q hq => ?_⟩, ⟨?_, ?_, ?_, fun q hq => ?_, fun q hq => ?_, ?_⟩, rdR_fr a5 ?_ ?_ (fun r _ _ => mu_ne (by omega)) (fun r _ _ => mu_ne (by omega)) rfl rfl, shR_fr a6 (fun r _ _ => mu_ne (by omega)) (fun r _ _ => mu_ne (by omega)), ?_, ?_⟩
      · rw [mu_f (by decide)]; exact a3.1
      · rw [mu_f (by decide)]; exact a3.2.1
      · rw [mu_v]
      · rw [mu_nn (by decide), mu_nn (by decide)]; exact a3.2.2.2.1 q hq
      · rw [mu_nn (by decide), mu_nn (by decide), mu_nn (by decide)]; exact a3.2.2.2.2 q hq
      · rw [mu_f (by decide)]; exact a4.1
      · rw [mu_f (by decide)]; exact a4.2.1
      · rw [mu_v]
      · rw [mu_nn (by decide), mu_nn (by decide)]; exact a4.2.2.2.1 q hq
      · rw [mu_nn (by decide), mu_nn (by decide)]; exact a4.2.2.2.2.1 q hq
      · rw [mu_f (by decide)]; exact a4.2.2.2.2.2
      · exact mu_nn (by decide)
      · exact mu_f (by decide)
      · rw [mu_nn (by decide), mu_f (by decide)]; exact a7
      · rw [mu_nn (by decide), mu_f (by decide)]; exact a8
theorem p_as (h : Inv M N) (x1 x2 : Int32) : Ag (f_X5_as x1 x2 M) (f_X6_as x1 x2 N) := by
  obtain ⟨⟨S, n, Q, Z, hr0⟩, e9⟩ := h
  have hr := Rel_fault hr0 0 0
  have h0 := Inv_fault hr0 0
  unfold f_X5_as f_X6_as
  rw [mlt_eq, mlt_eq]
  generalize mu M 0 9 0 = M1 at hr h0 ⊢
  generalize mu N 0 0 0 = N1 at hr h0 ⊢
  have hS := hr.1.1
  have hR := hr.2.1
  have hN := hr.2.2.1
  have b1 := hS.1
  rcases hs_cases hR hN hS x1 with ⟨h1, h2⟩ | ⟨k, hk, rfl, h1, h2⟩
  · rw [h1, h2, bd_some, bd_some, if_pos rfl, if_pos rfl]; exact Ag.mk _ h0
  · rw [h1, h2, bd_some, bd_some, if_neg i10, if_neg i10]
    rcases rg_cases x2 0 2 (l := 0) (h := 2) I_0 I_2 (by decide) (by decide) with h3 | ⟨h3, h4, v, rfl, h5, h6⟩
    · rw [w_out h3, bd_some, if_pos rfl]
      rcases h3 with h3 | ⟨h3, h4⟩
      · rw [if_pos (show x2 < 0 from h3)]; exact Ag.mk _ h0
      · rw [if_neg (show ¬ x2 < 0 from h3), if_neg (show ¬ x2 ≤ 2 from nle h4)]; exact Ag.mk _ h0
    · rw [w_in (lo := 0) (hi := 2) h3 h4, bd_some, if_neg i10, if_neg (show ¬ I (v : Int) < 0 from h3), if_pos (show I (v : Int) ≤ 2 from yle h4), grd_ok (by omega) (by decide), grd_ok (by omega) (by decide), I_tn (by omega), show M1 2 k = I (S.2.2.2 0 k) from (hR.2.2.2.1 k hk).1, (hN.2.2.2.1 k hk).1]
      by_cases hv : I (v : Int) ≤ I (S.2.2.2 0 k)
      · rw [if_pos hv]
        have : ¬ I (S.2.2.2 0 k : Int) < I v := fun q => nle q hv
        first | (rw [if_neg this]; exact Ag.mk _ h0) | (rw [if_pos hv]; exact Ag.mk _ h0)
      · rw [if_neg hv]
        unfold f_X5_faulty f_X6_fails
        rw [mlt_eq, mlt_eq, bd_some]
        have : I (S.2.2.2 0 k : Int) < I v := by
          rw [Int32.le_iff_toInt_le] at hv
          rw [Int32.lt_iff_toInt_lt]
          omega
        first | (rw [if_pos this, bd_some]; exact Ag.mk _ (Inv_fault hr 2)) | (rw [if_neg hv, bd_some]; exact Ag.mk _ (Inv_fault hr 2))
end A1
