set_option maxHeartbeats 4000000 in
set_option maxRecDepth 100000 in
theorem law_loop {p : Program} {l : Launch} {e : Env} {s : State} {m : MethodId} {below : List Frame} {meth : Method} {c : Code} {dC : Nat → ClassId} {dI : Nat → Nat → Nat} {cA : ClassId} {A : Nat → Prop} {b : Nat} {L : Nat} {xs : Nat → Int32} (hx : p.tables.exec = Jvm.exec) (hb : c.code = cL_law) (hml : c.maxLocals = 4) (hown : s.vm.findClass RL = some m.cls) (hts : ∀ w ∈ wsL_law, w.before #[Value.ref b] s = true) (hX : va_X b L xs s s.heap) (hbl : b < s.heap.size) (hbA : ¬ A b) (hA : ∀ q, s.heap.size ≤ q → A q) (hN : nestP s) (hK : va_K (dC, dI) vwCl [(cA, .int)] s) (hL : L ≤ 1536) (hr : meth.sig.returnType = ret) (hlocks : meth.locks = false) (hAs : ∀ q, A q → s.heap.size ≤ q) (k0 r0 r1 r2 r3 r4 r5 r6 v0 v1 v2 m0 m1 m2 m3 m4 m5 m6 m7 m8 m9 : Nat) : ∀ (nf i : Nat), L - i < nf → i ≤ L + 3 → lawW p l e s m below meth c (lw_Z below #[Value.ref b] s) dC dI cA A b k0 r0 r1 r2 r3 r4 r5 r6 v0 v1 v2 m0 m1 m2 m3 m4 m5 m6 m7 m8 m9 18 i := by
  intro nf
  induction nf with
  | zero =>
    intro i hm
    exact absurd hm (Nat.not_lt_zero _)
  | succ nf ih =>
    intro i hm hi3 row rs tg st ln pa nd ar lv of bt wz op dp mcd mnd mtg mst mln mpa mrd mar mdp mat mrs mfd mpl mtx mou mdn H locs ls hR hW htx hP hD hS hl
    refine lv_iload_n hx hb dL_law_18 rfl (lv_at hl 3 rfl) ?_
    refine lv_aload_n hx hb dL_law_19 rfl (lv_at hl 0 rfl) ?_
    refine va_slen hx hb hX hbl hbA hS dL_law_20 ?_
    refine lv_iconst (v := nI 3) hx hb dL_law_21 (by decide) ?_
    refine lv_isub hx hb dL_law_22 ?_
    have hcmp : Int32.ofNat L - nI 3 < nI i ↔ L < i + 3 := by
      rw [Int32.lt_iff_toInt_lt, show Int32.ofNat L - nI 3 = nI L - nI 3 from rfl, pk_sub_toInt (by omega) (by decide), nI_toInt (by omega)]
      omega
    refine lv_icmp_gt (tgt := 547) hx hb dL_law_23 (by decide) (fun c_1 => ?_) (fun c_1 => ?_)
    · refine lv_iconst (v := 1) hx hb dL_law_547 (by decide) ?_
      refine va_forget (fun q hq => hAs _ (hS.2.2 q hq)) ?_
      exact lw_ret hx hb hr hlocks dL_law_548
    · have hi : i + 3 ≤ L := by
        rcases Nat.lt_or_ge L (i + 3) with z | z
        · exact absurd (hcmp.mpr z) c_1
        · exact z
      have kk : lawW p l e s m below meth c (lw_Z below #[Value.ref b] s) dC dI cA A b k0 r0 r1 r2 r3 r4 r5 r6 v0 v1 v2 m0 m1 m2 m3 m4 m5 m6 m7 m8 m9 541 i := by
        intro row rs tg st ln pa nd ar lv of bt wz op dp mcd mnd mtg mst mln mpa mrd mar mdp mat mrs mfd mpl mtx mou mdn H locs ls hR hW htx hP hD hS hl
        refine lv_iinc (v := nI (i + 3)) (lv' := [(3, .int (nI (i + 3))), (0, .ref b), (1, .ref k0), (2, .ref m0)]) hx hb dL_law_541 hl (k := 3) rfl (nI_inc i 3) (by decide) rfl (fun ls hl => ?_)
        refine lv_goto (tgt := 18) hx hb dL_law_544 (by decide) ?_
        exact ih (i + 3) (by omega) (by omega) row rs tg st ln pa nd ar lv of bt wz op dp mcd mnd mtg mst mln mpa mrd mar mdp mat mrs mfd mpl mtx mou mdn _ _ _ hR hW htx hP hD hS (lv_sub hl [1, 2, 3, 0] rfl)
      refine lv_aload_n hx hb dL_law_26 rfl (lv_at hl 0 rfl) ?_
      refine lv_iload_n hx hb dL_law_27 rfl (lv_at hl 3 rfl) ?_
      refine hl_sld hx hb hX hbl hbA hS (by omega) (by omega) dL_law_28 ?_
      refine lv_bipush (v := nI 31) hx hb dL_law_29 (by decide) ?_
      refine lv_iand hx hb dL_law_31 ?_
      obtain ⟨kc, hkc, ekc⟩ := pk_andE (xs i) (m := nI 31) 5 (by decide)
      refine hl_top ekc ?_
      rcases (show kc = 0 ∨ kc = 1 ∨ kc = 2 ∨ kc = 3 ∨ kc = 4 ∨ kc = 5 ∨ kc = 6 ∨ kc = 7 ∨ kc = 8 ∨ kc = 9 ∨ kc = 10 ∨ kc = 11 ∨ kc = 12 ∨ kc = 13 ∨ kc = 14 ∨ kc = 15 ∨ kc = 16 ∨ kc = 17 ∨ kc = 18 ∨ kc = 19 ∨ kc = 20 ∨ 20 < kc by omega) with c_2 | c_2 | c_2 | c_2 | c_2 | c_2 | c_2 | c_2 | c_2 | c_2 | c_2 | c_2 | c_2 | c_2 | c_2 | c_2 | c_2 | c_2 | c_2 | c_2 | c_2 | c_2
      · refine hl_top (show nI kc = nI 0 by rw [c_2]) ?_
        refine lv_tableIn (off := 100) (tgt := 132) hx hb dL_law_32 (by decide) (by decide) (by decide) (by decide) ?_
        exact lc_feed hx hb hml hown hts hX hbl hbA hA hN hK hL k0 r0 r1 r2 r3 r4 r5 r6 v0 v1 v2 m0 m1 m2 m3 m4 m5 m6 m7 m8 m9 i hi kk row rs tg st ln pa nd ar lv of bt wz op dp mcd mnd mtg mst mln mpa mrd mar mdp mat mrs mfd mpl mtx mou mdn _ _ _ hR hW htx hP hD hS hl
      · refine hl_top (show nI kc = nI 1 by rw [c_2]) ?_
        refine lv_tableIn (off := 123) (tgt := 155) hx hb dL_law_32 (by decide) (by decide) (by decide) (by decide) ?_
        exact lc_parse hx hb hml hown hts hX hbl hbA hA hN hK hL k0 r0 r1 r2 r3 r4 r5 r6 v0 v1 v2 m0 m1 m2 m3 m4 m5 m6 m7 m8 m9 i hi kk row rs tg st ln pa nd ar lv of bt wz op dp mcd mnd mtg mst mln mpa mrd mar mdp mat mrs mfd mpl mtx mou mdn _ _ _ hR hW htx hP hD hS hl
      · refine hl_top (show nI kc = nI 2 by rw [c_2]) ?_
        refine lv_tableIn (off := 136) (tgt := 168) hx hb dL_law_32 (by decide) (by decide) (by decide) (by decide) ?_
        exact lc_offence hx hb hml hown hts hX hbl hbA hA hN hK hL k0 r0 r1 r2 r3 r4 r5 r6 v0 v1 v2 m0 m1 m2 m3 m4 m5 m6 m7 m8 m9 i hi kk row rs tg st ln pa nd ar lv of bt wz op dp mcd mnd mtg mst mln mpa mrd mar mdp mat mrs mfd mpl mtx mou mdn _ _ _ hR hW htx hP hD hS hl
      · refine hl_top (show nI kc = nI 3 by rw [c_2]) ?_
        refine lv_tableIn (off := 149) (tgt := 181) hx hb dL_law_32 (by decide) (by decide) (by decide) (by decide) ?_
        exact lc_nodeCount hx hb hml hown hts hX hbl hbA hA hN hK hL k0 r0 r1 r2 r3 r4 r5 r6 v0 v1 v2 m0 m1 m2 m3 m4 m5 m6 m7 m8 m9 i hi kk row rs tg st ln pa nd ar lv of bt wz op dp mcd mnd mtg mst mln mpa mrd mar mdp mat mrs mfd mpl mtx mou mdn _ _ _ hR hW htx hP hD hS hl
      · refine hl_top (show nI kc = nI 4 by rw [c_2]) ?_
        refine lv_tableIn (off := 162) (tgt := 194) hx hb dL_law_32 (by decide) (by decide) (by decide) (by decide) ?_
        exact lc_tagOf hx hb hml hown hts hX hbl hbA hA hN hK hL k0 r0 r1 r2 r3 r4 r5 r6 v0 v1 v2 m0 m1 m2 m3 m4 m5 m6 m7 m8 m9 i hi kk row rs tg st ln pa nd ar lv of bt wz op dp mcd mnd mtg mst mln mpa mrd mar mdp mat mrs mfd mpl mtx mou mdn _ _ _ hR hW htx hP hD hS hl
      · refine hl_top (show nI kc = nI 5 by rw [c_2]) ?_
        refine lv_tableIn (off := 185) (tgt := 217) hx hb dL_law_32 (by decide) (by decide) (by decide) (by decide) ?_
        exact lc_contentAt hx hb hml hown hts hX hbl hbA hA hN hK hL k0 r0 r1 r2 r3 r4 r5 r6 v0 v1 v2 m0 m1 m2 m3 m4 m5 m6 m7 m8 m9 i hi kk row rs tg st ln pa nd ar lv of bt wz op dp mcd mnd mtg mst mln mpa mrd mar mdp mat mrs mfd mpl mtx mou mdn _ _ _ hR hW htx hP hD hS hl
      · refine hl_top (show nI kc = nI 6 by rw [c_2]) ?_
        refine lv_tableIn (off := 208) (tgt := 240) hx hb dL_law_32 (by decide) (by decide) (by decide) (by decide) ?_
        exact lc_contentLen hx hb hml hown hts hX hbl hbA hA hN hK hL k0 r0 r1 r2 r3 r4 r5 r6 v0 v1 v2 m0 m1 m2 m3 m4 m5 m6 m7 m8 m9 i hi kk row rs tg st ln pa nd ar lv of bt wz op dp mcd mnd mtg mst mln mpa mrd mar mdp mat mrs mfd mpl mtx mou mdn _ _ _ hR hW htx hP hD hS hl
      · refine hl_top (show nI kc = nI 7 by rw [c_2]) ?_
        refine lv_tableIn (off := 231) (tgt := 263) hx hb dL_law_32 (by decide) (by decide) (by decide) (by decide) ?_
        exact lc_parent hx hb hml hown hts hX hbl hbA hA hN hK hL k0 r0 r1 r2 r3 r4 r5 r6 v0 v1 v2 m0 m1 m2 m3 m4 m5 m6 m7 m8 m9 i hi kk row rs tg st ln pa nd ar lv of bt wz op dp mcd mnd mtg mst mln mpa mrd mar mdp mat mrs mfd mpl mtx mou mdn _ _ _ hR hW htx hP hD hS hl
      · refine hl_top (show nI kc = nI 8 by rw [c_2]) ?_
        refine lv_tableIn (off := 254) (tgt := 286) hx hb dL_law_32 (by decide) (by decide) (by decide) (by decide) ?_
        exact lc_oidArc hx hb hml hown hts hX hbl hbA hA hN hK hL k0 r0 r1 r2 r3 r4 r5 r6 v0 v1 v2 m0 m1 m2 m3 m4 m5 m6 m7 m8 m9 i hi kk row rs tg st ln pa nd ar lv of bt wz op dp mcd mnd mtg mst mln mpa mrd mar mdp mat mrs mfd mpl mtx mou mdn _ _ _ hR hW htx hP hD hS hl
      · refine hl_top (show nI kc = nI 9 by rw [c_2]) ?_
        refine lv_tableIn (off := 287) (tgt := 319) hx hb dL_law_32 (by decide) (by decide) (by decide) (by decide) ?_
        exact lc_intFits hx hb hml hown hts hX hbl hbA hA hN hK hL k0 r0 r1 r2 r3 r4 r5 r6 v0 v1 v2 m0 m1 m2 m3 m4 m5 m6 m7 m8 m9 i hi kk row rs tg st ln pa nd ar lv of bt wz op dp mcd mnd mtg mst mln mpa mrd mar mdp mat mrs mfd mpl mtx mou mdn _ _ _ hR hW htx hP hD hS hl
      · refine hl_top (show nI kc = nI 10 by rw [c_2]) ?_
        refine lv_tableIn (off := 310) (tgt := 342) hx hb dL_law_32 (by decide) (by decide) (by decide) (by decide) ?_
        exact lc_intValue hx hb hml hown hts hX hbl hbA hA hN hK hL k0 r0 r1 r2 r3 r4 r5 r6 v0 v1 v2 m0 m1 m2 m3 m4 m5 m6 m7 m8 m9 i hi kk row rs tg st ln pa nd ar lv of bt wz op dp mcd mnd mtg mst mln mpa mrd mar mdp mat mrs mfd mpl mtx mou mdn _ _ _ hR hW htx hP hD hS hl
      · refine hl_top (show nI kc = nI 11 by rw [c_2]) ?_
        refine lv_tableIn (off := 333) (tgt := 365) hx hb dL_law_32 (by decide) (by decide) (by decide) (by decide) ?_
        exact lc_wipe hx hb hml hown hts hX hbl hbA hA hN hK hL k0 r0 r1 r2 r3 r4 r5 r6 v0 v1 v2 m0 m1 m2 m3 m4 m5 m6 m7 m8 m9 i hi kk row rs tg st ln pa nd ar lv of bt wz op dp mcd mnd mtg mst mln mpa mrd mar mdp mat mrs mfd mpl mtx mou mdn _ _ _ hR hW htx hP hD hS hl
      · refine hl_top (show nI kc = nI 12 by rw [c_2]) ?_
        refine lv_tableIn (off := 344) (tgt := 376) hx hb dL_law_32 (by decide) (by decide) (by decide) (by decide) ?_
        exact lc_begin hx hb hml hown hts hX hbl hbA hA hN hK hL k0 r0 r1 r2 r3 r4 r5 r6 v0 v1 v2 m0 m1 m2 m3 m4 m5 m6 m7 m8 m9 i hi kk row rs tg st ln pa nd ar lv of bt wz op dp mcd mnd mtg mst mln mpa mrd mar mdp mat mrs mfd mpl mtx mou mdn _ _ _ hR hW htx hP hD hS hl
      · refine hl_top (show nI kc = nI 13 by rw [c_2]) ?_
        refine lv_tableIn (off := 367) (tgt := 399) hx hb dL_law_32 (by decide) (by decide) (by decide) (by decide) ?_
        exact lc_putByte hx hb hml hown hts hX hbl hbA hA hN hK hL k0 r0 r1 r2 r3 r4 r5 r6 v0 v1 v2 m0 m1 m2 m3 m4 m5 m6 m7 m8 m9 i hi kk row rs tg st ln pa nd ar lv of bt wz op dp mcd mnd mtg mst mln mpa mrd mar mdp mat mrs mfd mpl mtx mou mdn _ _ _ hR hW htx hP hD hS hl
      · refine hl_top (show nI kc = nI 14 by rw [c_2]) ?_
        refine lv_tableIn (off := 390) (tgt := 422) hx hb dL_law_32 (by decide) (by decide) (by decide) (by decide) ?_
        exact lc_putInt hx hb hml hown hts hX hbl hbA hA hN hK hL k0 r0 r1 r2 r3 r4 r5 r6 v0 v1 v2 m0 m1 m2 m3 m4 m5 m6 m7 m8 m9 i hi kk row rs tg st ln pa nd ar lv of bt wz op dp mcd mnd mtg mst mln mpa mrd mar mdp mat mrs mfd mpl mtx mou mdn _ _ _ hR hW htx hP hD hS hl
      · refine hl_top (show nI kc = nI 15 by rw [c_2]) ?_
        refine lv_tableIn (off := 413) (tgt := 445) hx hb dL_law_32 (by decide) (by decide) (by decide) (by decide) ?_
        exact lc_putPart hx hb hml hown hts hX hbl hbA hA hN hK hL k0 r0 r1 r2 r3 r4 r5 r6 v0 v1 v2 m0 m1 m2 m3 m4 m5 m6 m7 m8 m9 i hi kk row rs tg st ln pa nd ar lv of bt wz op dp mcd mnd mtg mst mln mpa mrd mar mdp mat mrs mfd mpl mtx mou mdn _ _ _ hR hW htx hP hD hS hl
      · refine hl_top (show nI kc = nI 16 by rw [c_2]) ?_
        refine lv_tableIn (off := 436) (tgt := 468) hx hb dL_law_32 (by decide) (by decide) (by decide) (by decide) ?_
        exact lc_end hx hb hml hown hts hX hbl hbA hA hN hK hL k0 r0 r1 r2 r3 r4 r5 r6 v0 v1 v2 m0 m1 m2 m3 m4 m5 m6 m7 m8 m9 i hi kk row rs tg st ln pa nd ar lv of bt wz op dp mcd mnd mtg mst mln mpa mrd mar mdp mat mrs mfd mpl mtx mou mdn _ _ _ hR hW htx hP hD hS hl
      · refine hl_top (show nI kc = nI 17 by rw [c_2]) ?_
        refine lv_tableIn (off := 449) (tgt := 481) hx hb dL_law_32 (by decide) (by decide) (by decide) (by decide) ?_
        exact lc_out hx hb hml hown hts hX hbl hbA hA hN hK hL k0 r0 r1 r2 r3 r4 r5 r6 v0 v1 v2 m0 m1 m2 m3 m4 m5 m6 m7 m8 m9 i hi kk row rs tg st ln pa nd ar lv of bt wz op dp mcd mnd mtg mst mln mpa mrd mar mdp mat mrs mfd mpl mtx mou mdn _ _ _ hR hW htx hP hD hS hl
      · refine hl_top (show nI kc = nI 18 by rw [c_2]) ?_
        refine lv_tableIn (off := 472) (tgt := 504) hx hb dL_law_32 (by decide) (by decide) (by decide) (by decide) ?_
        exact lc_outSize hx hb hml hown hts hX hbl hbA hA hN hK hL k0 r0 r1 r2 r3 r4 r5 r6 v0 v1 v2 m0 m1 m2 m3 m4 m5 m6 m7 m8 m9 i hi kk row rs tg st ln pa nd ar lv of bt wz op dp mcd mnd mtg mst mln mpa mrd mar mdp mat mrs mfd mpl mtx mou mdn _ _ _ hR hW htx hP hD hS hl
      · refine hl_top (show nI kc = nI 19 by rw [c_2]) ?_
        refine lv_tableIn (off := 485) (tgt := 517) hx hb dL_law_32 (by decide) (by decide) (by decide) (by decide) ?_
        exact lc_depth hx hb hml hown hts hX hbl hbA hA hN hK hL k0 r0 r1 r2 r3 r4 r5 r6 v0 v1 v2 m0 m1 m2 m3 m4 m5 m6 m7 m8 m9 i hi kk row rs tg st ln pa nd ar lv of bt wz op dp mcd mnd mtg mst mln mpa mrd mar mdp mat mrs mfd mpl mtx mou mdn _ _ _ hR hW htx hP hD hS hl
      · refine hl_top (show nI kc = nI 20 by rw [c_2]) ?_
        refine lv_tableIn (off := 498) (tgt := 530) hx hb dL_law_32 (by decide) (by decide) (by decide) (by decide) ?_
        exact lc_restart hx hb hml hown hts hX hbl hbA hA hN hK hL k0 r0 r1 r2 r3 r4 r5 r6 v0 v1 v2 m0 m1 m2 m3 m4 m5 m6 m7 m8 m9 i hi kk row rs tg st ln pa nd ar lv of bt wz op dp mcd mnd mtg mst mln mpa mrd mar mdp mat mrs mfd mpl mtx mou mdn _ _ _ hR hW htx hP hD hS hl
      · refine lv_tableOut (tgt := 541) hx hb dL_law_32 (by rw [nI_toInt (by omega)]; omega) (by decide) ?_
        exact kk row rs tg st ln pa nd ar lv of bt wz op dp mcd mnd mtg mst mln mpa mrd mar mdp mat mrs mfd mpl mtx mou mdn _ _ _ hR hW htx hP hD hS hl
