/-- the class's reader and the reference's -/
def LR (row : Nat → Nat) (rs : Nat) (tg st ln : Nat → Nat) (pa : Nat → Int32) (nd : Nat) (ar : Nat → Nat) (mnd : Nat) (mtg mst mln : Nat → Nat) (mpa : Nat → Int32) (mrd : Nat) (mar : Nat → Nat) : Prop :=
  mrd < 2 ∧ nd = (if mrd = 0 then 0 else mnd) ∧ rs ≤ 300 ∧ nd ≤ 64 ∧ mnd ≤ 64 ∧ (∀ j, row j < 256) ∧ ((∀ j, tg j < 256) ∧ (∀ j, st j < 1000) ∧ (∀ j, ln j < 65536) ∧ (∀ j, ar j < 64)) ∧ ((∀ j, mtg j < 256) ∧ (∀ j, mst j < 1000) ∧ (∀ j, mln j < 65536) ∧ (∀ j, mar j < 64)) ∧ AG nd tg st ln pa mtg mst mln mpa ∧ (∀ j, j < nd → st j + ln j ≤ 300 ∧ (tg j = 2 → 1 ≤ ln j))
/-- the class's writer and the reference's -/
def LW (bt : Nat → Nat) (wz : Nat) (op : Nat → Nat) (dp : Nat) (mou : Nat → Nat) (mdn : Nat) : Prop :=
  mdn = (if dp = 0 ∧ 0 < wz then 1 else 0) ∧ wz ≤ 300 ∧ dp ≤ 16 ∧ (∀ j, bt j < 256) ∧ (∀ j, mou j < 256) ∧ (∀ j, j < wz → bt j = mou j) ∧ (∀ j, j < dp → op j < wz) ∧ (∀ j, j + 1 < dp → op j < op (j + 1)) ∧ (0 < dp → op 0 = 0)
theorem LR.nodes {row : Nat → Nat} {rs : Nat} {tg st ln : Nat → Nat} {pa : Nat → Int32} {nd : Nat} {ar : Nat → Nat} {mnd : Nat} {mtg mst mln : Nat → Nat} {mpa : Nat → Int32} {mrd : Nat} {mar : Nat → Nat} (h : LR row rs tg st ln pa nd ar mnd mtg mst mln mpa mrd mar) (node : Int32) : isNd nd node ↔ isNm mrd mnd node := by
  obtain ⟨l1, l2, l3, l4, l5, l6, -⟩ := h
  by_cases q : mrd = 0
  · rw [if_pos q] at l2
    subst l2
    constructor
    · intro z
      exact absurd z.2 z.1
    · intro z
      exact absurd q z.1
  · rw [if_neg q] at l2
    subst l2
    exact ⟨fun z => ⟨q, z⟩, fun z => z.2⟩
theorem LR.at {row : Nat → Nat} {rs : Nat} {tg st ln : Nat → Nat} {pa : Nat → Int32} {nd : Nat} {ar : Nat → Nat} {mnd : Nat} {mtg mst mln : Nat → Nat} {mpa : Nat → Int32} {mrd : Nat} {mar : Nat → Nat} (h : LR row rs tg st ln pa nd ar mnd mtg mst mln mpa mrd mar) {node : Int32} (hn : isNd nd node) : node.toNatClampNeg < nd ∧ tg node.toNatClampNeg = mtg node.toNatClampNeg ∧ st node.toNatClampNeg = mst node.toNatClampNeg ∧ ln node.toNatClampNeg = mln node.toNatClampNeg ∧ pa node.toNatClampNeg = mpa node.toNatClampNeg := by
  obtain ⟨l1, l2, l3, l4, l5, l6, c, d, g, z⟩ := h
  have hl := cl_lt hn.1 (by omega) hn.2
  exact ⟨hl, g _ hl⟩
theorem LR.small {row : Nat → Nat} {rs : Nat} {tg st ln : Nat → Nat} {pa : Nat → Int32} {nd : Nat} {ar : Nat → Nat} {mnd : Nat} {mtg mst mln : Nat → Nat} {mpa : Nat → Int32} {mrd : Nat} {mar : Nat → Nat} (h : LR row rs tg st ln pa nd ar mnd mtg mst mln mpa mrd mar) (node : Int32) : isSm nd tg ln node ↔ isSn mrd mnd mtg mln node := by
  constructor
  · intro z
    have hn : isNd nd node := ⟨z.1, z.2.1⟩
    have ha := h.at hn
    have hm := (h.nodes node).mp hn
    exact ⟨hm.1, z.1, hm.2.2, by rw [← ha.2.1]; exact z.2.2.1, by rw [← ha.2.2.2.1]; exact z.2.2.2⟩
  · intro z
    have hn : isNd nd node := (h.nodes node).mpr ⟨z.1, z.2.1, z.2.2.1⟩
    have ha := h.at hn
    exact ⟨hn.1, hn.2, by rw [ha.2.1]; exact z.2.2.2.1, by rw [ha.2.2.2.1]; exact z.2.2.2.2⟩
theorem LW.top {bt : Nat → Nat} {wz : Nat} {op : Nat → Nat} {dp : Nat} {mou : Nat → Nat} {mdn : Nat} (h : LW bt wz op dp mou mdn) (hd : 0 < dp) : bt (op (dp - 1)) = mou (op (dp - 1)) := by
  obtain ⟨w1, w2, w3, w4, w5, w6, w7, w8, w9⟩ := h
  exact w6 _ (w7 _ (by omega))
theorem LW.inc {bt : Nat → Nat} {wz : Nat} {op : Nat → Nat} {dp : Nat} {mou : Nat → Nat} {mdn : Nat} (h : LW bt wz op dp mou mdn) : ∀ (d j : Nat), j + d + 1 < dp → op j < op (j + d + 1)
  | 0, j, hj => h.2.2.2.2.2.2.2.1 j hj
  | d + 1, j, hj => Nat.lt_trans (LW.inc h d j (by omega)) (h.2.2.2.2.2.2.2.1 (j + d + 1) hj)
theorem pB_agree {f g : Nat → Nat} {w : Nat} {B : Nat → Nat} {n : Nat} (h : ∀ j, j < w → f j = g j) : ∀ i j, j < w + i → pB f w B n i j = pB g w B n i j
  | 0, j, hj => h j hj
  | i + 1, j, hj => by
    show va_up (pB f w B n i) (w + i) (B (n - 1 - i)) j = va_up (pB g w B n i) (w + i) (B (n - 1 - i)) j
    by_cases e : j = w + i
    · rw [e, up_eq, up_eq]
    · rw [up_ne _ _ e, up_ne _ _ e]
      exact pB_agree h i j (by omega)
theorem begC_eq {tag : Int32} {bt : Nat → Nat} {wz : Nat} {op : Nat → Nat} {dp : Nat} {mou : Nat → Nat} {mdn : Nat} (h : LW bt wz op dp mou mdn) : begC tag dp wz bt op = begC tag dp wz mou op := by
  by_cases h0 : dp = 0
  · unfold begC canH; simp [h0]
  · unfold begC canH; rw [h.top (by omega)]
theorem pbC_eq {b : Int32} {bt : Nat → Nat} {wz : Nat} {op : Nat → Nat} {dp : Nat} {mou : Nat → Nat} {mdn : Nat} (h : LW bt wz op dp mou mdn) : pbC b dp wz bt op = pbC b dp wz mou op := by
  by_cases h0 : dp = 0
  · unfold pbC; simp [h0]
  · unfold pbC; rw [h.top (by omega)]
theorem piC_eq {v : Int32} {bt : Nat → Nat} {wz : Nat} {op : Nat → Nat} {dp : Nat} {mou : Nat → Nat} {mdn : Nat} (h : LW bt wz op dp mou mdn) : piC v dp wz bt op = piC v dp wz mou op := by
  by_cases h0 : dp = 0
  · unfold piC; simp [h0]
  · unfold piC; rw [h.top (by omega)]
theorem ppC_eq {v : Int32} {bt : Nat → Nat} {wz : Nat} {op : Nat → Nat} {dp : Nat} {mou : Nat → Nat} {mdn : Nat} (h : LW bt wz op dp mou mdn) : ppC v dp wz bt op = ppC v dp wz mou op := by
  by_cases h0 : dp = 0
  · unfold ppC; simp [h0]
  · unfold ppC; rw [h.top (by omega)]
theorem enC_eq {bt : Nat → Nat} {wz : Nat} {op : Nat → Nat} {dp : Nat} {mou : Nat → Nat} {mdn : Nat} (h : LW bt wz op dp mou mdn) : enC dp wz bt op = enC dp wz mou op := by
  by_cases h0 : dp = 0
  · unfold enC; simp [h0]
  · have hk : enK dp wz bt op = enK dp wz mou op := by
      show okC (bt (op (dp - 1))) bt (op (dp - 1) + 1) (wz - (op (dp - 1) + 1)) = okC (mou (op (dp - 1))) mou (op (dp - 1) + 1) (wz - (op (dp - 1) + 1))
      rw [h.top (by omega)]
      exact okC_eq (fun j hj => h.2.2.2.2.2.1 _ (by omega))
    unfold enC
    rw [hk]
theorem dp_pi {v : Int32} {bt op : Nat → Nat} {wz dp : Nat} (h : piC v dp wz bt op = 0) : 0 < dp := by
  unfold piC at h
  rcases Nat.eq_zero_or_pos dp with z | z
  · rw [if_pos (Or.inl z)] at h; exact absurd h (by decide)
  · exact z
theorem dp_pb {b : Int32} {bt op : Nat → Nat} {wz dp : Nat} (h : pbC b dp wz bt op = 0) : 0 < dp := by
  unfold pbC at h
  rcases Nat.eq_zero_or_pos dp with z | z
  · split at h
    · exact absurd h (by decide)
    · rw [if_pos (Or.inl z)] at h; exact absurd h (by decide)
  · exact z
theorem dp_pp {v : Int32} {bt op : Nat → Nat} {wz dp : Nat} (h : ppC v dp wz bt op = 0) : 0 < dp := by
  unfold ppC at h
  rcases Nat.eq_zero_or_pos dp with z | z
  · split at h
    · exact absurd h (by decide)
    · rw [if_pos (Or.inl z)] at h; exact absurd h (by decide)
  · exact z
theorem LW.put {bt : Nat → Nat} {wz : Nat} {op : Nat → Nat} {dp : Nat} {mou : Nat → Nat} {mdn : Nat} (h : LW bt wz op dp mou mdn) (hd : 0 < dp) {n : Nat} {bt2 mou2 : Nat → Nat} (hn : wz + n ≤ 300) (hb : ∀ j, bt2 j < 256) (hm : ∀ j, mou2 j < 256) (hg : ∀ j, j < wz + n → bt2 j = mou2 j) : LW bt2 (wz + n) op dp mou2 mdn := by
  obtain ⟨w1, w2, w3, w4, w5, w6, w7, w8, w9⟩ := h
  refine ⟨?_, hn, w3, hb, hm, hg, fun j hj => ?_, w8, w9⟩
  · rw [w1, if_neg (by omega), if_neg (by omega)]
  · have := w7 j hj
    omega
theorem st_feed {row : Nat → Nat} {rs : Nat} {tg : Nat → Nat} {st : Nat → Nat} {ln : Nat → Nat} {pa : Nat → Int32} {nd : Nat} {ar : Nat → Nat} {mnd : Nat} {mtg : Nat → Nat} {mst : Nat → Nat} {mln : Nat → Nat} {mpa : Nat → Int32} {mrd : Nat} {mar : Nat → Nat} {b : Int32} {row2 : Nat → Nat} {rs2 : Nat} {nd2 : Nat} {mcd2 : Int32} {mrow2 : Nat → Nat} {msz2 : Nat} {mrd2 : Nat} {r q : Int32} (hL : LR row rs tg st ln pa nd ar mnd mtg mst mln mpa mrd mar) (hc : (¬ isB b ∧ r = -1 ∧ row2 = row ∧ rs2 = rs ∧ nd2 = nd) ∨ (isB b ∧ rs = 300 ∧ r = -3 ∧ row2 = row ∧ rs2 = rs ∧ nd2 = nd) ∨ (isB b ∧ rs < 300 ∧ r = 0 ∧ row2 = va_up row rs b.toNatClampNeg ∧ rs2 = rs + 1 ∧ nd2 = 0)) (hm : ((¬ isB b ∧ q = -1 ∧ mrow2 = row ∧ msz2 = rs ∧ mrd2 = mrd) ∨ (isB b ∧ rs = 300 ∧ q = -3 ∧ mrow2 = row ∧ msz2 = rs ∧ mrd2 = mrd) ∨ (isB b ∧ rs < 300 ∧ q = 0 ∧ mrow2 = va_up row rs b.toNatClampNeg ∧ msz2 = rs + 1 ∧ mrd2 = 0)) ∧ mcd2 = nI 0) : r = q ∧ mrow2 = row2 ∧ msz2 = rs2 ∧ LR row2 rs2 tg st ln pa nd2 ar mnd mtg mst mln mpa mrd2 mar := by
  obtain ⟨l1, l2, l3, l4, l5, l6, c, d, g, z⟩ := id hL
  obtain ⟨hm, -⟩ := hm
  rcases hc with ⟨a1, e1, e2, e3, e4⟩ | ⟨a1, a2, e1, e2, e3, e4⟩ | ⟨a1, a2, e1, e2, e3, e4⟩ <;> rcases hm with ⟨b1, f1, f2, f3, f4⟩ | ⟨b1, b2, f1, f2, f3, f4⟩ | ⟨b1, b2, f1, f2, f3, f4⟩
  all_goals first | exact absurd b1 a1 | exact absurd a1 b1 | (exfalso; omega) | (rw [e1, f1, e2, e3, e4, f2, f3, f4]; exact ⟨rfl, rfl, rfl, hL⟩) | skip
  rw [e1, f1, e2, e3, e4, f2, f3, f4]
  have hb := cl_le a1.1 (show 255 < 2 ^ 31 by decide) a1.2
  exact ⟨rfl, rfl, rfl, by omega, rfl, by omega, by omega, l5, up_lt l6 (by omega), c, d, fun j hj => absurd hj (Nat.not_lt_zero j), fun j hj => absurd hj (Nat.not_lt_zero j)⟩
theorem st_wipe {row : Nat → Nat} {rs : Nat} {tg : Nat → Nat} {st : Nat → Nat} {ln : Nat → Nat} {pa : Nat → Int32} {nd : Nat} {ar : Nat → Nat} {mnd : Nat} {mtg : Nat → Nat} {mst : Nat → Nat} {mln : Nat → Nat} {mpa : Nat → Int32} {mrd : Nat} {mar : Nat → Nat} {rs2 : Nat} {nd2 : Nat} {mcd2 : Int32} {msz2 : Nat} {mrd2 : Nat} (hL : LR row rs tg st ln pa nd ar mnd mtg mst mln mpa mrd mar) (hc : rs2 = 0 ∧ nd2 = 0) (hm : mcd2 = nI 0 ∧ msz2 = 0 ∧ mrd2 = 0) : msz2 = rs2 ∧ LR row rs2 tg st ln pa nd2 ar mnd mtg mst mln mpa mrd2 mar := by
  obtain ⟨l1, l2, l3, l4, l5, l6, c, d, g, z⟩ := id hL
  obtain ⟨e1, e2⟩ := hc
  obtain ⟨-, f1, f2⟩ := hm
  rw [e1, e2, f1, f2]
  exact ⟨rfl, by omega, rfl, by omega, by omega, l5, l6, c, d, fun j hj => absurd hj (Nat.not_lt_zero j), fun j hj => absurd hj (Nat.not_lt_zero j)⟩
theorem st_parse {row : Nat → Nat} {rs : Nat} {tg : Nat → Nat} {st : Nat → Nat} {ln : Nat → Nat} {pa : Nat → Int32} {nd : Nat} {ar : Nat → Nat} {mnd : Nat} {mtg : Nat → Nat} {mst : Nat → Nat} {mln : Nat → Nat} {mpa : Nat → Int32} {mrd : Nat} {mar : Nat → Nat} {of2 : Int32} {nd2 : Nat} {lv2 : Nat} {tg2 : Nat → Nat} {st2 : Nat → Nat} {ln2 : Nat → Nat} {ar2 : Nat → Nat} {pa2 : Nat → Int32} {pl2 : Nat} {mcd2 : Int32} {mnd2 : Nat} {mrd2 : Nat} {mof2 : Int32} {mfd2 : Nat} {mtg2 : Nat → Nat} {mst2 : Nat → Nat} {mln2 : Nat → Nat} {mpa2 : Nat → Int32} {mar2 : Nat → Nat} {mdp2 : Nat} {mat2 : Nat} {mtx2 : Nat → Nat} {r q : Int32} (hL : LR row rs tg st ln pa nd ar mnd mtg mst mln mpa mrd mar) (hc : ((runS row rs 65 (0, 0, 0, tg, st, ln, ar, pa) = .inr (pl2, nd2, lv2, tg2, st2, ln2, ar2, pa2) ∧ r = nI 0 ∧ of2 = -1 ∧ PInv rs pl2 nd2 lv2 tg2 st2 ln2 ar2 ∧ 0 < nd2) ∨ (runS row rs 65 (0, 0, 0, tg, st, ln, ar, pa) = .inl (r, of2) ∧ r ≠ 0 ∧ nd2 = 0)) ∧ (∀ j, tg2 j < 256) ∧ (∀ j, st2 j < 1000) ∧ (∀ j, ln2 j < 65536) ∧ (∀ j, ar2 j < 64) ∧ nd2 ≤ 64 ∧ lv2 ≤ 16) (hm : ((runS row rs 65 (0, 0, 0, mtg, mst, mln, mar, mpa) = .inr (mat2, mnd2, mdp2, mtg2, mst2, mln2, mar2, mpa2) ∧ q = nI 0 ∧ mrd2 = 1 ∧ mof2 = -1 ∧ PInv rs mat2 mnd2 mdp2 mtg2 mst2 mln2 mar2 ∧ 0 < mnd2) ∨ (runS row rs 65 (0, 0, 0, mtg, mst, mln, mar, mpa) = .inl (q, mof2) ∧ q ≠ 0 ∧ mrd2 = 0)) ∧ (∀ j, mtg2 j < 256) ∧ (∀ j, mst2 j < 1000) ∧ (∀ j, mln2 j < 65536) ∧ (∀ j, mar2 j < 64) ∧ (∀ j, mtx2 j < 256) ∧ mfd2 ≤ 64 ∧ mdp2 ≤ 16 ∧ mat2 < 70000 ∧ mnd2 ≤ 64 ∧ mcd2 = nI 0) : r = q ∧ mof2 = of2 ∧ (∀ j, mtx2 j < 256) ∧ LR row rs tg2 st2 ln2 pa2 nd2 ar2 mnd2 mtg2 mst2 mln2 mpa2 mrd2 mar2 := by
  obtain ⟨l1, l2, l3, l4, l5, l6, c, d, g, z⟩ := id hL
  obtain ⟨hc, b1, b2, b3, b4, b5, b6⟩ := hc
  obtain ⟨hm, d1, d2, d3, d4, d5, d6, d7, d8, d9, -⟩ := hm
  have hrel := run_rel (row := row) (rs := rs) 65 0 0 0 tg st ln ar pa mtg mst mln mar mpa (fun j hj => absurd hj (Nat.not_lt_zero j)) (fun j hj => absurd hj (Nat.not_lt_zero j))
  rcases hc with ⟨r1, r2, r3, r4, r5⟩ | ⟨r1, r2, r3⟩
  · rcases hm with ⟨s1, s2, s3, s4, s5, s6⟩ | ⟨s1, s2, s3⟩
    · have hi := run_int l6 65 0 0 0 tg st ln ar pa _ (fun j hj => absurd hj (Nat.not_lt_zero j)) r1
      rcases hrel with ⟨x, h1, h2⟩ | ⟨p, n, w, t, u, v, a, k, t', u', v', a', k', h1, h2, h3⟩
      · rw [r1] at h1; cases h1
      · rw [r1] at h1
        rw [s1] at h2
        cases h1
        cases h2
        refine ⟨by rw [r2, s2], by rw [r3, s4], d5, by omega, by rw [s3]; rfl, l3, b5, d9, l6, ⟨b1, b2, b3, b4⟩, ⟨d1, d2, d3, d4⟩, h3, fun j hj => ⟨?_, hi j hj⟩⟩
        have := r4.2.2.2.2.2.2.2.2.1 j hj
        omega
    · rcases hrel with ⟨x, h1, h2⟩ | ⟨p, n, w, t, u, v, a, k, t', u', v', a', k', h1, h2, h3⟩
      · rw [r1] at h1; cases h1
      · rw [s1] at h2; cases h2
  · rcases hm with ⟨s1, s2, s3, s4, s5, s6⟩ | ⟨s1, s2, s3⟩
    · rcases hrel with ⟨x, h1, h2⟩ | ⟨p, n, w, t, u, v, a, k, t', u', v', a', k', h1, h2, h3⟩
      · rw [s1] at h2; cases h2
      · rw [r1] at h1; cases h1
    · rcases hrel with ⟨x, h1, h2⟩ | ⟨p, n, w, t, u, v, a, k, t', u', v', a', k', h1, h2, h3⟩
      · rw [r1] at h1
        rw [s1] at h2
        have e := Sum.inl.inj (h1.trans h2.symm)
        have e1 := congrArg Prod.fst e
        have e2 := congrArg Prod.snd e
        dsimp only at e1 e2
        rw [r3, s3]
        exact ⟨e1, e2.symm, d5, by omega, rfl, l3, by omega, d9, l6, ⟨b1, b2, b3, b4⟩, ⟨d1, d2, d3, d4⟩, fun j hj => absurd hj (Nat.not_lt_zero j), fun j hj => absurd hj (Nat.not_lt_zero j)⟩
      · rw [r1] at h1; cases h1
theorem st_nodeCount {row : Nat → Nat} {rs : Nat} {tg : Nat → Nat} {st : Nat → Nat} {ln : Nat → Nat} {pa : Nat → Int32} {nd : Nat} {ar : Nat → Nat} {mnd : Nat} {mtg : Nat → Nat} {mst : Nat → Nat} {mln : Nat → Nat} {mpa : Nat → Int32} {mrd : Nat} {mar : Nat → Nat} {mcd2 : Int32} {r q : Int32} (hL : LR row rs tg st ln pa nd ar mnd mtg mst mln mpa mrd mar) (hc : r = nI nd) (hm : q = nI (if mrd = 0 then 0 else mnd) ∧ mcd2 = nI 0) : r = q := by
  rw [hc, hm.1, hL.2.1]
theorem st_offence {row : Nat → Nat} {rs : Nat} {tg : Nat → Nat} {st : Nat → Nat} {ln : Nat → Nat} {pa : Nat → Int32} {nd : Nat} {ar : Nat → Nat} {mnd : Nat} {mtg : Nat → Nat} {mst : Nat → Nat} {mln : Nat → Nat} {mpa : Nat → Int32} {mrd : Nat} {mar : Nat → Nat} {of : Int32} {mcd2 : Int32} {r q : Int32} (hL : LR row rs tg st ln pa nd ar mnd mtg mst mln mpa mrd mar) (hc : r = of) (hm : q = of ∧ mcd2 = nI 0) : r = q := by
  rw [hc, hm.1]
theorem st_tagOf {row : Nat → Nat} {rs : Nat} {tg : Nat → Nat} {st : Nat → Nat} {ln : Nat → Nat} {pa : Nat → Int32} {nd : Nat} {ar : Nat → Nat} {mnd : Nat} {mtg : Nat → Nat} {mst : Nat → Nat} {mln : Nat → Nat} {mpa : Nat → Int32} {mrd : Nat} {mar : Nat → Nat} {node : Int32} {mcd2 : Int32} {r q : Int32} (hL : LR row rs tg st ln pa nd ar mnd mtg mst mln mpa mrd mar) (hc : r = if isNd nd node then nI (tg node.toNatClampNeg) else -1) (hm : (q = if isNm mrd mnd node then nI (mtg node.toNatClampNeg) else -1) ∧ mcd2 = nI 0) : r = q := by
  rw [hc, hm.1]
  by_cases h : isNd nd node
  · rw [if_pos h, if_pos ((hL.nodes node).mp h), (hL.at h).2.1]
  · rw [if_neg h, if_neg (fun w => h ((hL.nodes node).mpr w))]
theorem st_contentAt {row : Nat → Nat} {rs : Nat} {tg : Nat → Nat} {st : Nat → Nat} {ln : Nat → Nat} {pa : Nat → Int32} {nd : Nat} {ar : Nat → Nat} {mnd : Nat} {mtg : Nat → Nat} {mst : Nat → Nat} {mln : Nat → Nat} {mpa : Nat → Int32} {mrd : Nat} {mar : Nat → Nat} {node : Int32} {mcd2 : Int32} {r q : Int32} (hL : LR row rs tg st ln pa nd ar mnd mtg mst mln mpa mrd mar) (hc : r = if isNd nd node then nI (st node.toNatClampNeg) else -1) (hm : (q = if isNm mrd mnd node then nI (mst node.toNatClampNeg) else -1) ∧ mcd2 = nI 0) : r = q := by
  rw [hc, hm.1]
  by_cases h : isNd nd node
  · rw [if_pos h, if_pos ((hL.nodes node).mp h), (hL.at h).2.2.1]
  · rw [if_neg h, if_neg (fun w => h ((hL.nodes node).mpr w))]
theorem st_contentLen {row : Nat → Nat} {rs : Nat} {tg : Nat → Nat} {st : Nat → Nat} {ln : Nat → Nat} {pa : Nat → Int32} {nd : Nat} {ar : Nat → Nat} {mnd : Nat} {mtg : Nat → Nat} {mst : Nat → Nat} {mln : Nat → Nat} {mpa : Nat → Int32} {mrd : Nat} {mar : Nat → Nat} {node : Int32} {mcd2 : Int32} {r q : Int32} (hL : LR row rs tg st ln pa nd ar mnd mtg mst mln mpa mrd mar) (hc : r = if isNd nd node then nI (ln node.toNatClampNeg) else -1) (hm : (q = if isNm mrd mnd node then nI (mln node.toNatClampNeg) else -1) ∧ mcd2 = nI 0) : r = q := by
  rw [hc, hm.1]
  by_cases h : isNd nd node
  · rw [if_pos h, if_pos ((hL.nodes node).mp h), (hL.at h).2.2.2.1]
  · rw [if_neg h, if_neg (fun w => h ((hL.nodes node).mpr w))]
theorem st_parent {row : Nat → Nat} {rs : Nat} {tg : Nat → Nat} {st : Nat → Nat} {ln : Nat → Nat} {pa : Nat → Int32} {nd : Nat} {ar : Nat → Nat} {mnd : Nat} {mtg : Nat → Nat} {mst : Nat → Nat} {mln : Nat → Nat} {mpa : Nat → Int32} {mrd : Nat} {mar : Nat → Nat} {node : Int32} {mcd2 : Int32} {r q : Int32} (hL : LR row rs tg st ln pa nd ar mnd mtg mst mln mpa mrd mar) (hc : r = if isNd nd node then pa node.toNatClampNeg else -1) (hm : (q = if isNm mrd mnd node then mpa node.toNatClampNeg else -1) ∧ mcd2 = nI 0) : r = q := by
  rw [hc, hm.1]
  by_cases h : isNd nd node
  · rw [if_pos h, if_pos ((hL.nodes node).mp h), (hL.at h).2.2.2.2]
  · rw [if_neg h, if_neg (fun w => h ((hL.nodes node).mpr w))]
theorem st_intFits {row : Nat → Nat} {rs : Nat} {tg : Nat → Nat} {st : Nat → Nat} {ln : Nat → Nat} {pa : Nat → Int32} {nd : Nat} {ar : Nat → Nat} {mnd : Nat} {mtg : Nat → Nat} {mst : Nat → Nat} {mln : Nat → Nat} {mpa : Nat → Int32} {mrd : Nat} {mar : Nat → Nat} {node : Int32} {mcd2 : Int32} {r q : Int32} (hL : LR row rs tg st ln pa nd ar mnd mtg mst mln mpa mrd mar) (hc : r = if isSm nd tg ln node then 1 else 0) (hm : (q = if isSn mrd mnd mtg mln node then 1 else 0) ∧ mcd2 = nI 0) : r = q := by
  rw [hc, hm.1]
  by_cases h : isSm nd tg ln node
  · rw [if_pos h, if_pos ((hL.small node).mp h)]
  · rw [if_neg h, if_neg (fun w => h ((hL.small node).mpr w))]
theorem st_intValue {row : Nat → Nat} {rs : Nat} {tg : Nat → Nat} {st : Nat → Nat} {ln : Nat → Nat} {pa : Nat → Int32} {nd : Nat} {ar : Nat → Nat} {mnd : Nat} {mtg : Nat → Nat} {mst : Nat → Nat} {mln : Nat → Nat} {mpa : Nat → Int32} {mrd : Nat} {mar : Nat → Nat} {node : Int32} {mcd2 : Int32} {r q : Int32} (hL : LR row rs tg st ln pa nd ar mnd mtg mst mln mpa mrd mar) (hc : r = if isSm nd tg ln node then siVal row (st node.toNatClampNeg) (ln node.toNatClampNeg) else 0) (hm : (q = if isSn mrd mnd mtg mln node then foldI row (mst node.toNatClampNeg) (sgI (row (mst node.toNatClampNeg))) (mln node.toNatClampNeg) else 0) ∧ mcd2 = nI 0) : r = q := by
  rw [hc, hm.1]
  by_cases h : isSm nd tg ln node
  · have ha := hL.at ⟨h.1, h.2.1⟩
    have hz := (hL.2.2.2.2.2.2.2.2.2 _ ha.1).2 h.2.2.1
    rw [if_pos h, if_pos ((hL.small node).mp h), ← ha.2.2.1, ← ha.2.2.2.1]
    exact si_fold hL.2.2.2.2.2.1 _ hz h.2.2.2
  · rw [if_neg h, if_neg (fun w => h ((hL.small node).mpr w))]
theorem st_oidArc {row : Nat → Nat} {rs : Nat} {tg : Nat → Nat} {st : Nat → Nat} {ln : Nat → Nat} {pa : Nat → Int32} {nd : Nat} {ar : Nat → Nat} {mnd : Nat} {mtg : Nat → Nat} {mst : Nat → Nat} {mln : Nat → Nat} {mpa : Nat → Int32} {mrd : Nat} {mar : Nat → Nat} {node : Int32} {k : Int32} {mcd2 : Int32} {r q : Int32} (hL : LR row rs tg st ln pa nd ar mnd mtg mst mln mpa mrd mar) (hc : r = if isNd nd node ∧ tg node.toNatClampNeg = 6 ∧ ¬ k < 0 then oidS row (st node.toNatClampNeg) (ln node.toNatClampNeg) k.toNatClampNeg else -1) (hm : (q = if isNm mrd mnd node ∧ mtg node.toNatClampNeg = 6 ∧ ¬ k < 0 then oidS row (mst node.toNatClampNeg) (mln node.toNatClampNeg) k.toNatClampNeg else -1) ∧ mcd2 = nI 0) : r = q := by
  rw [hc, hm.1]
  by_cases h : isNd nd node
  · have ha := hL.at h
    have hn := (hL.nodes node).mp h
    rw [← ha.2.1, ← ha.2.2.1, ← ha.2.2.2.1]
    by_cases h2 : tg node.toNatClampNeg = 6 ∧ ¬ k < 0
    · rw [if_pos ⟨h, h2⟩, if_pos ⟨hn, h2⟩]
    · rw [if_neg (fun w => h2 w.2), if_neg (fun w => h2 w.2)]
  · rw [if_neg (fun w => h w.1), if_neg (fun w => h ((hL.nodes node).mpr w.1))]
theorem st_begin {bt : Nat → Nat} {wz : Nat} {op : Nat → Nat} {dp : Nat} {mou : Nat → Nat} {mdn : Nat} {tag : Int32} {bt2 : Nat → Nat} {wz2 : Nat} {op2 : Nat → Nat} {dp2 : Nat} {mcd2 : Int32} {mou2 : Nat → Nat} {mwr2 : Nat} {mop2 : Nat → Nat} {mon2 : Nat} {r q : Int32} (hL : LW bt wz op dp mou mdn) (hc : r = begC tag dp wz bt op ∧ ((begC tag dp wz bt op = 0 ∧ isId tag ∧ canH dp wz bt op ∧ dp < 16 ∧ wz < 300 ∧ bt2 = va_up bt wz tag.toNatClampNeg ∧ wz2 = wz + 1 ∧ op2 = va_up op dp wz ∧ dp2 = dp + 1) ∨ (begC tag dp wz bt op ≠ 0 ∧ bt2 = bt ∧ wz2 = wz ∧ op2 = op ∧ dp2 = dp))) (hm : (q = begC tag dp wz mou op ∧ ((begC tag dp wz mou op = 0 ∧ isId tag ∧ canH dp wz mou op ∧ dp < 16 ∧ wz < 300 ∧ mou2 = va_up mou wz tag.toNatClampNeg ∧ mwr2 = wz + 1 ∧ mop2 = va_up op dp wz ∧ mon2 = dp + 1) ∨ (begC tag dp wz mou op ≠ 0 ∧ mou2 = mou ∧ mwr2 = wz ∧ mop2 = op ∧ mon2 = dp))) ∧ mcd2 = nI 0) : r = q ∧ mwr2 = wz2 ∧ mop2 = op2 ∧ mon2 = dp2 ∧ LW bt2 wz2 op2 dp2 mou2 mdn := by
  obtain ⟨w1, w2, w3, w4, w5, w6, w7, w8, w9⟩ := id hL
  obtain ⟨hr, hc⟩ := hc
  obtain ⟨⟨hq, hm⟩, -⟩ := hm
  have e := begC_eq (tag := tag) hL
  rcases hc with ⟨a0, a1, a2, a3, a4, a5, a6, a7, a8⟩ | ⟨a0, a5, a6, a7, a8⟩ <;> rcases hm with ⟨b0, b1, b2, b3, b4, b5, b6, b7, b8⟩ | ⟨b0, b5, b6, b7, b8⟩
  · rw [hr, hq, a5, a6, a7, a8, b5, b6, b7, b8]
    have hid := id_of a1
    refine ⟨e, rfl, rfl, rfl, ?_, by omega, by omega, up_lt w4 hid.2, up_lt w5 hid.2, fun j hj => ?_, fun j hj => ?_, fun j hj => ?_, fun _ => ?_⟩
    · rw [w1]
      rcases a2 with a2 | a2
      · rw [if_neg (by omega), if_neg (by omega)]
      · rw [if_neg (by omega), if_neg (by omega)]
    · by_cases q : j = wz
      · rw [q, up_eq, up_eq]
      · rw [up_ne _ _ q, up_ne _ _ q]; exact w6 j (by omega)
    · by_cases q : j = dp
      · rw [q, up_eq]; omega
      · rw [up_ne _ _ q]; have := w7 j (by omega); omega
    · rw [up_ne _ _ (show j ≠ dp by omega)]
      by_cases q : j + 1 = dp
      · rw [q, up_eq]; exact w7 j (by omega)
      · rw [up_ne _ _ q]; exact w8 j (by omega)
    · rcases a2 with a2 | a2
      · rw [a2.1, up_eq]; exact a2.2
      · rw [up_ne _ _ (show 0 ≠ dp by omega)]; exact w9 a2.1
  · exact absurd (e.symm.trans a0) b0
  · exact absurd (e.trans b0) a0
  · rw [hr, hq, a5, a6, a7, a8, b5, b6, b7, b8]
    exact ⟨e, rfl, rfl, rfl, hL⟩
theorem st_putByte {bt : Nat → Nat} {wz : Nat} {op : Nat → Nat} {dp : Nat} {mou : Nat → Nat} {mdn : Nat} {b : Int32} {bt2 : Nat → Nat} {wz2 : Nat} {mcd2 : Int32} {mou2 : Nat → Nat} {mwr2 : Nat} {r q : Int32} (hL : LW bt wz op dp mou mdn) (hc : r = pbC b dp wz bt op ∧ ((pbC b dp wz bt op = 0 ∧ isB b ∧ wz < 300 ∧ bt2 = va_up bt wz b.toNatClampNeg ∧ wz2 = wz + 1) ∨ (pbC b dp wz bt op ≠ 0 ∧ bt2 = bt ∧ wz2 = wz))) (hm : (q = pbC b dp wz mou op ∧ ((pbC b dp wz mou op = 0 ∧ isB b ∧ wz < 300 ∧ mou2 = va_up mou wz b.toNatClampNeg ∧ mwr2 = wz + 1) ∨ (pbC b dp wz mou op ≠ 0 ∧ mou2 = mou ∧ mwr2 = wz))) ∧ mcd2 = nI 0) : r = q ∧ mwr2 = wz2 ∧ LW bt2 wz2 op dp mou2 mdn := by
  obtain ⟨w1, w2, w3, w4, w5, w6, w7, w8, w9⟩ := id hL
  obtain ⟨hr, hc⟩ := hc
  obtain ⟨⟨hq, hm⟩, -⟩ := hm
  have e := pbC_eq (b := b) hL
  rcases hc with ⟨a0, a1, a4, a5, a6⟩ | ⟨a0, a5, a6⟩ <;> rcases hm with ⟨b0, b1, b4, b5, b6⟩ | ⟨b0, b5, b6⟩
  · rw [hr, hq, a5, a6, b5, b6]
    have hb := cl_le a1.1 (show 255 < 2 ^ 31 by decide) a1.2
    refine ⟨e, rfl, hL.put (dp_pb a0) (by omega) (up_lt w4 (by omega)) (up_lt w5 (by omega)) (fun j hj => ?_)⟩
    by_cases q : j = wz
    · rw [q, up_eq, up_eq]
    · rw [up_ne _ _ q, up_ne _ _ q]; exact w6 j (by omega)
  · exact absurd (e.symm.trans a0) b0
  · exact absurd (e.trans b0) a0
  · rw [hr, hq, a5, a6, b5, b6]
    exact ⟨e, rfl, hL⟩
theorem st_putInt {bt : Nat → Nat} {wz : Nat} {op : Nat → Nat} {dp : Nat} {mou : Nat → Nat} {mdn : Nat} {v : Int32} {bt2 : Nat → Nat} {wz2 : Nat} {mcd2 : Int32} {mou2 : Nat → Nat} {mwr2 : Nat} {r q : Int32} (hL : LW bt wz op dp mou mdn) (hc : r = piC v dp wz bt op ∧ ((piC v dp wz bt op = 0 ∧ wz + intSz v ≤ 300 ∧ bt2 = pB bt wz (byN v) (intSz v) (intSz v) ∧ wz2 = wz + intSz v) ∨ (piC v dp wz bt op ≠ 0 ∧ bt2 = bt ∧ wz2 = wz))) (hm : (q = piC v dp wz mou op ∧ ((piC v dp wz mou op = 0 ∧ wz + intSz v ≤ 300 ∧ mou2 = pB mou wz (byN v) (intSz v) (intSz v) ∧ mwr2 = wz + intSz v) ∨ (piC v dp wz mou op ≠ 0 ∧ mou2 = mou ∧ mwr2 = wz))) ∧ mcd2 = nI 0) : r = q ∧ mwr2 = wz2 ∧ LW bt2 wz2 op dp mou2 mdn := by
  obtain ⟨w1, w2, w3, w4, w5, w6, w7, w8, w9⟩ := id hL
  obtain ⟨hr, hc⟩ := hc
  obtain ⟨⟨hq, hm⟩, -⟩ := hm
  have e := piC_eq (v := v) hL
  rcases hc with ⟨a0, a4, a5, a6⟩ | ⟨a0, a5, a6⟩ <;> rcases hm with ⟨b0, b4, b5, b6⟩ | ⟨b0, b5, b6⟩
  · rw [hr, hq, a5, a6, b5, b6]
    exact ⟨e, rfl, hL.put (dp_pi a0) a4 (pB_lt w4 (byN_lt v) _) (pB_lt w5 (byN_lt v) _) (fun j hj => pB_agree w6 _ j hj)⟩
  · exact absurd (e.symm.trans a0) b0
  · exact absurd (e.trans b0) a0
  · rw [hr, hq, a5, a6, b5, b6]
    exact ⟨e, rfl, hL⟩
theorem st_putPart {bt : Nat → Nat} {wz : Nat} {op : Nat → Nat} {dp : Nat} {mou : Nat → Nat} {mdn : Nat} {v : Int32} {bt2 : Nat → Nat} {wz2 : Nat} {mcd2 : Int32} {mou2 : Nat → Nat} {mwr2 : Nat} {r q : Int32} (hL : LW bt wz op dp mou mdn) (hc : r = ppC v dp wz bt op ∧ ((ppC v dp wz bt op = 0 ∧ wz + partSz v ≤ 300 ∧ bt2 = pB bt wz (bpN v) (partSz v) (partSz v) ∧ wz2 = wz + partSz v) ∨ (ppC v dp wz bt op ≠ 0 ∧ bt2 = bt ∧ wz2 = wz))) (hm : (q = ppC v dp wz mou op ∧ ((ppC v dp wz mou op = 0 ∧ wz + partSz v ≤ 300 ∧ mou2 = pB mou wz (bpN v) (partSz v) (partSz v) ∧ mwr2 = wz + partSz v) ∨ (ppC v dp wz mou op ≠ 0 ∧ mou2 = mou ∧ mwr2 = wz))) ∧ mcd2 = nI 0) : r = q ∧ mwr2 = wz2 ∧ LW bt2 wz2 op dp mou2 mdn := by
  obtain ⟨w1, w2, w3, w4, w5, w6, w7, w8, w9⟩ := id hL
  obtain ⟨hr, hc⟩ := hc
  obtain ⟨⟨hq, hm⟩, -⟩ := hm
  have e := ppC_eq (v := v) hL
  rcases hc with ⟨a0, a4, a5, a6⟩ | ⟨a0, a5, a6⟩ <;> rcases hm with ⟨b0, b4, b5, b6⟩ | ⟨b0, b5, b6⟩
  · rw [hr, hq, a5, a6, b5, b6]
    exact ⟨e, rfl, hL.put (dp_pp a0) a4 (pB_lt w4 (bpN_lt v) _) (pB_lt w5 (bpN_lt v) _) (fun j hj => pB_agree w6 _ j hj)⟩
  · exact absurd (e.symm.trans a0) b0
  · exact absurd (e.trans b0) a0
  · rw [hr, hq, a5, a6, b5, b6]
    exact ⟨e, rfl, hL⟩
theorem st_end {bt : Nat → Nat} {wz : Nat} {op : Nat → Nat} {dp : Nat} {mou : Nat → Nat} {mdn : Nat} {bt2 : Nat → Nat} {wz2 : Nat} {dp2 : Nat} {mcd2 : Int32} {mou2 : Nat → Nat} {mwr2 : Nat} {mon2 : Nat} {mdn2 : Nat} {mtx2 : Nat → Nat} {r q : Int32} (hL : LW bt wz op dp mou mdn) (hc : r = enC dp wz bt op ∧ ((enC dp wz bt op = 0 ∧ 0 < dp ∧ wz + lenSz (enN dp wz op) ≤ 300 ∧ enB dp wz bt op bt2 ∧ wz2 = wz + lenSz (enN dp wz op) ∧ dp2 = dp - 1) ∨ (enC dp wz bt op = -4 ∧ 0 < dp ∧ bt2 = bt ∧ wz2 = op (dp - 1) ∧ dp2 = dp - 1) ∨ (enC dp wz bt op ≠ 0 ∧ enC dp wz bt op ≠ -4 ∧ bt2 = bt ∧ wz2 = wz ∧ dp2 = dp)) ∧ (∀ j, bt2 j < 256)) (hm : (q = enC dp wz mou op ∧ ((enC dp wz mou op = 0 ∧ 0 < dp ∧ wz + lenSz (enN dp wz op) ≤ 300 ∧ enB dp wz mou op mou2 ∧ mwr2 = wz + lenSz (enN dp wz op) ∧ mon2 = dp - 1 ∧ mdn2 = (if dp - 1 = 0 then 1 else 0)) ∨ (enC dp wz mou op = -4 ∧ 0 < dp ∧ mou2 = mou ∧ mwr2 = op (dp - 1) ∧ mon2 = dp - 1 ∧ mdn2 = mdn) ∨ (enC dp wz mou op ≠ 0 ∧ enC dp wz mou op ≠ -4 ∧ mou2 = mou ∧ mwr2 = wz ∧ mon2 = dp ∧ mdn2 = mdn)) ∧ (∀ j, mou2 j < 256) ∧ (∀ j, mtx2 j < 256)) ∧ mcd2 = nI 0) : r = q ∧ mwr2 = wz2 ∧ mon2 = dp2 ∧ (∀ j, mtx2 j < 256) ∧ LW bt2 wz2 op dp2 mou2 mdn2 := by
  obtain ⟨w1, w2, w3, w4, w5, w6, w7, w8, w9⟩ := id hL
  obtain ⟨hr, hc, hb⟩ := hc
  obtain ⟨⟨hq, hm, hb2, htx⟩, -⟩ := hm
  have e := enC_eq hL
  rcases hc with ⟨a0, a1, a2, a3, a4, a5⟩ | ⟨a0, a1, a2, a3, a4⟩ | ⟨a0, a1, a2, a3, a4⟩
  · rcases hm with ⟨b0, b1, b2, b3, b4, b5, b6⟩ | ⟨b0, b1, b2, b3, b4, b5⟩ | ⟨b0, b1, b2, b3, b4, b5⟩
    · have ho := w7 (dp - 1) (by omega)
      have hz := lenSz_le (enN dp wz op)
      rw [hr, hq, a4, a5, b4, b5, b6]
      refine ⟨e, rfl, rfl, htx, ?_, a2, by omega, hb, hb2, fun j hj => ?_, fun j hj => ?_, fun j hj => w8 j (by omega), fun _ => w9 (by omega)⟩
      · by_cases q : dp - 1 = 0
        · rw [if_pos q, if_pos ⟨q, by omega⟩]
        · rw [if_neg q, if_neg (fun h => q h.1)]
      · rcases (show j < op (dp - 1) + 1 ∨ (∃ i, i < lenSz (enN dp wz op) ∧ j = op (dp - 1) + 1 + i) ∨ (∃ i, op (dp - 1) + 1 ≤ i ∧ i < wz ∧ j = i + lenSz (enN dp wz op)) from by
          rcases Nat.lt_or_ge j (op (dp - 1) + 1) with h | h
          · exact Or.inl h
          · rcases Nat.lt_or_ge j (op (dp - 1) + 1 + lenSz (enN dp wz op)) with h2 | h2
            · exact Or.inr (Or.inl ⟨j - (op (dp - 1) + 1), by omega, by omega⟩)
            · exact Or.inr (Or.inr ⟨j - lenSz (enN dp wz op), by omega, by omega, by omega⟩)) with h | ⟨i, h, rfl⟩ | ⟨i, h, h2, rfl⟩
        · rw [a3.1 j h, b3.1 j h]; exact w6 j (by omega)
        · rw [a3.2.1 i h, b3.2.1 i h]
        · rw [a3.2.2 i h h2, b3.2.2 i h h2]; exact w6 i h2
      · have := w7 j (by omega)
        omega
    · exact absurd ((e.symm.trans a0).symm.trans b0) (by decide)
    · exact absurd (e.symm.trans a0) b0
  · rcases hm with ⟨b0, b1, b2, b3, b4, b5, b6⟩ | ⟨b0, b1, b2, b3, b4, b5⟩ | ⟨b0, b1, b2, b3, b4, b5⟩
    · exact absurd ((e.symm.trans a0).symm.trans b0) (by decide)
    · have ho := w7 (dp - 1) (by omega)
      rw [hr, hq, a2, a3, a4, b2, b3, b4, b5]
      refine ⟨e, rfl, rfl, htx, ?_, by omega, by omega, w4, w5, fun j hj => w6 j (by omega), fun j hj => ?_, fun j hj => w8 j (by omega), fun _ => w9 (by omega)⟩
      · rw [w1, if_neg (by omega)]
        by_cases q : dp - 1 = 0
        · have h0 := w9 (by omega)
          rw [q, h0, if_neg (by omega)]
        · rw [if_neg (fun h => q h.1)]
      · have := LW.inc hL (dp - 2 - j) j (by omega)
        rw [show j + (dp - 2 - j) + 1 = dp - 1 by omega] at this
        exact this
    · exact absurd (e.symm.trans a0) b1
  · rcases hm with ⟨b0, b1, b2, b3, b4, b5, b6⟩ | ⟨b0, b1, b2, b3, b4, b5⟩ | ⟨b0, b1, b2, b3, b4, b5⟩
    · exact absurd (e.trans b0) a0
    · exact absurd (e.trans b0) a1
    · rw [hr, hq, a2, a3, a4, b2, b3, b4, b5]
      exact ⟨e, rfl, rfl, htx, hL⟩
theorem st_out {bt : Nat → Nat} {wz : Nat} {op : Nat → Nat} {dp : Nat} {mou : Nat → Nat} {mdn : Nat} {i : Int32} {mcd2 : Int32} {r q : Int32} (hL : LW bt wz op dp mou mdn) (hc : r = if isNd wz i then nI (bt i.toNatClampNeg) else -1) (hm : (q = if isNd wz i then nI (mou i.toNatClampNeg) else -1) ∧ mcd2 = nI 0) : r = q := by
  obtain ⟨w1, w2, w3, w4, w5, w6, w7, w8, w9⟩ := id hL
  rw [hc, hm.1]
  by_cases h : isNd wz i
  · rw [if_pos h, if_pos h, w6 _ (cl_lt h.1 (by omega) h.2)]
  · rw [if_neg h, if_neg h]
theorem st_outSize {bt : Nat → Nat} {wz : Nat} {op : Nat → Nat} {dp : Nat} {mou : Nat → Nat} {mdn : Nat} {mcd2 : Int32} {r q : Int32} (hL : LW bt wz op dp mou mdn) (hc : r = nI wz) (hm : q = nI wz ∧ mcd2 = nI 0) : r = q := by
  rw [hc, hm.1]
theorem st_depth {bt : Nat → Nat} {wz : Nat} {op : Nat → Nat} {dp : Nat} {mou : Nat → Nat} {mdn : Nat} {mcd2 : Int32} {r q : Int32} (hL : LW bt wz op dp mou mdn) (hc : r = nI dp) (hm : q = nI dp ∧ mcd2 = nI 0) : r = q := by
  rw [hc, hm.1]
theorem st_restart {bt : Nat → Nat} {wz : Nat} {op : Nat → Nat} {dp : Nat} {mou : Nat → Nat} {mdn : Nat} {wz2 : Nat} {dp2 : Nat} {mcd2 : Int32} {mwr2 : Nat} {mon2 : Nat} {mdn2 : Nat} (hL : LW bt wz op dp mou mdn) (hc : wz2 = 0 ∧ dp2 = 0) (hm : mcd2 = nI 0 ∧ mwr2 = 0 ∧ mon2 = 0 ∧ mdn2 = 0) : mwr2 = wz2 ∧ mon2 = dp2 ∧ LW bt wz2 op dp2 mou mdn2 := by
  obtain ⟨w1, w2, w3, w4, w5, w6, w7, w8, w9⟩ := id hL
  obtain ⟨e1, e2⟩ := hc
  obtain ⟨-, f1, f2, f3⟩ := hm
  rw [e1, e2, f1, f2, f3]
  exact ⟨rfl, rfl, rfl, by omega, by omega, w4, w5, fun j hj => absurd hj (Nat.not_lt_zero j), fun j hj => absurd hj (Nat.not_lt_zero j), fun j hj => absurd hj (by omega), fun h => absurd h (by omega)⟩
