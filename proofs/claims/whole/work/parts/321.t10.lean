/-! single calls, nine: loose -/
theorem znI_tb (y : Int32) : y = nI y.toBitVec.toNat := by
  apply Int32.toBitVec_inj.mp
  simp [nI]
def zus (z : Int32) : Nat := z.toBitVec.toNat / 2 ^ 8
theorem zus_lt (z : Int32) : zus z < 2 ^ 24 := by
  have := z.toBitVec.isLt
  unfold zus
  omega
theorem zus_eq (z : Int32) : (z.toUInt32 >>> ((8 : Int32).toUInt32 &&& Int32.toUInt32 31)).toInt32 = nI (zus z) := by
  rw [znI_tb ((z.toUInt32 >>> ((8 : Int32).toUInt32 &&& Int32.toUInt32 31)).toInt32), pk_ushr z 8 8 (by decide)]
  rfl
def znx (z : Int32) : Int32 := z * 1103515245 + 12345
def zdr (N : Nat → Int32) : Nat → Int32 := if (N 1).toNatClampNeg = 0 then N else upd (upd (upd N 4 (znx (N 4))) 4 (znx (znx (N 4)))) (9 + 4 * (zus (znx (N 4)) % (N 1).toNatClampNeg)) (nI (zus (znx (znx (N 4))) % 10))
theorem zdr_N {N : Nat → Int32} (h : zN N) : zN (zdr N) ∧ ∀ k, k < 4 ∨ k = 5 ∨ k = 6 ∨ 27 ≤ k → zdr N k = N k := by
  have hA := (zs_cl h.1.1 (by decide)).1
  unfold zdr
  by_cases q : (N 1).toNatClampNeg = 0
  · rw [if_pos q]
    exact ⟨h, fun _ _ => rfl⟩
  · rw [if_neg q]
    have hm : zus (znx (N 4)) % (N 1).toNatClampNeg < (N 1).toNatClampNeg := Nat.mod_lt _ (by omega)
    refine ⟨zN_a2 (zN_draw (zN_draw h)) (by omega) (zs_nI (Nat.mod_lt _ (by decide))), fun k hk => ?_⟩
    rw [zu_ne (by omega), zu_ne (by omega), zu_ne (by omega)]
/-- a day of loose, and n of them -/
def zld1 (N : Nat → Int32) : Nat → Int32 := zday (zdr N)
def zlos : Nat → (Nat → Int32) → Nat → Int32
  | 0, N => N
  | k+1, N => zlos k (zld1 N)
def zJ (N N' : Nat → Int32) : Prop := zN N' ∧ ∀ k, k = 1 ∨ k = 2 ∨ k = 5 ∨ k = 6 ∨ 105 ≤ k → N' k = N k
theorem zJ_tr {N N1 N2 : Nat → Int32} (a : zJ N N1) (b : zJ N1 N2) : zJ N N2 := ⟨b.1, fun k h => (b.2 k h).trans (a.2 k h)⟩
theorem zJ_dr {N : Nat → Int32} (h : zN N) : zJ N (zdr N) := ⟨(zdr_N h).1, fun k hk => (zdr_N h).2 k (by omega)⟩
theorem zJ_day {N : Nat → Int32} (h : zN N) : zJ N (zday N) := ⟨(zday_K h).1, fun k hk => (zday_K h).2 k (by omega) (by omega) (by omega)⟩
/-- the state now has changed, not the laws, tape, waiting -/
def zgz (M M' : za_M) : Prop := (∀ x : za_L, ¬ (x.1 = 18 ∨ x = (1, 0, 0) ∨ (x.2.1 = 0 ∧ (x.1 = 2 ∨ x.1 = 3 ∨ x.1 = 4 ∨ x.1 = 5 ∨ x.1 = 13))) → M'.1 x = M.1 x) ∧ (∀ j, j ≠ 6 → M'.1 (1, 0, 0) j = M.1 (1, 0, 0) j) ∧ ∀ d, d ≠ 0 → M'.2 d = M.2 d
theorem zgz_tr {M M1 M2 : za_M} (a : zgz M M1) (b : zgz M1 M2) : zgz M M2 := ⟨fun x h => (b.1 x h).trans (a.1 x h), fun j h => (b.2.1 j h).trans (a.2.1 j h), fun d h => (b.2.2 d h).trans (a.2.2 d h)⟩
theorem zgz_rf (M : za_M) : zgz M M := ⟨fun _ _ => rfl, fun _ _ => rfl, fun _ _ => rfl⟩
theorem zgz_g {M M' : za_M} (h : zg 0 M M') : zgz M M' := ⟨fun x hx => h.1 x (fun q => hx (by rcases q with q | q
                                                                                              · exact Or.inl q
                                                                                              · exact Or.inr (Or.inr q))), fun j _ => by rw [h.1 (1, 0, 0) (by simp)], h.2⟩
theorem zgz_z {M : za_M} {v : Int32} : zgz M (za_up M (1, 0, 0) 6 v) := ⟨fun x hx => za_up_oth _ _ _ (fun q => hx (Or.inr (Or.inl q))), fun j hj => by rw [za_up_row, zu_ne hj], fun _ _ => rfl⟩
theorem zc_dr {N : Nat → Int32} {M : za_M} {K : za_M → Prop} (hN : zN N) (h : zc 0 N M) (hz : M.1 (1, 0, 0) 6 = N 4) (k : ∀ M', zc 0 (zdr N) M' → M'.1 (1, 0, 0) 6 = zdr N 4 → zgz M M' → K M') : f_X9_drawHedge M K := by
  have hA := zs_cl hN.1.1 (by decide)
  have e1 : M.1 (2, 0, 0) 3 = nI (N 1).toNatClampNeg := by rw [h.1.1]; exact hA.2
  simp only [f_X9_drawHedge, za_let, e1]
  unfold zdr at k
  by_cases q : (N 1).toNatClampNeg = 0
  · rw [if_pos q] at k
    rw [q, if_pos (by decide)]
    exact k M h hz (zgz_rf M)
  · rw [if_neg q] at k
    rw [if_neg (nI_nle (by omega) (by omega))]
    have hm : zus (znx (N 4)) % (N 1).toNatClampNeg < (N 1).toNatClampNeg := Nat.mod_lt _ (by omega)
    simp only [f_X9_draw, za_let, hz]
    have r1 : ∀ (M : za_M) (v : Int32), (za_up M (1, 0, 0) 6 v).1 (1, 0, 0) 6 = v := fun M v => by rw [za_up_row, zu_eq]
    simp only [r1, zus_eq]
    have w1 := zus_lt (znx (N 4))
    have w2 := zus_lt (znx (znx (N 4)))
    rw [show N 4 * 1103515245 + 12345 = znx (N 4) from rfl, show znx (N 4) * 1103515245 + 12345 = znx (znx (N 4)) from rfl]
    refine ⟨nI_ne0 (by omega) (by omega), ?_⟩
    rw [pk_rem (by omega) (by omega) (by omega), zl_lit 10, pk_rem (by omega) (by omega) (by omega)]
    refine ⟨vp_in_nI (by omega) (by decide), ?_⟩
    rw [nI_clamp (by omega)]
    generalize hM1 : za_up (za_up M (1, 0, 0) 6 (znx (N 4))) (1, 0, 0) 6 (znx (znx (N 4))) = M1
    have o : ∀ x : za_L, x ≠ (1, 0, 0) → M1.1 x = M.1 x := fun x hx => by rw [← hM1, za_up_oth _ _ _ hx, za_up_oth _ _ _ hx]
    have c1 : zc 0 (upd (upd N 4 (znx (N 4))) 4 (znx (znx (N 4)))) M1 := zc_row hN (zc_cg h (fun x _ hx => o x (fun q => by rw [q] at hx; simp at hx)) (by rw [← hM1]; rfl)) (fun k _ h4 _ _ => by rw [zu_ne h4, zu_ne h4])
    have z1 : M1.1 (1, 0, 0) 6 = znx (znx (N 4)) := by rw [← hM1, za_up_row, zu_eq]
    refine k _ (zc_ash (f := 2) (zN_draw (zN_draw hN)) c1 (by omega) (by decide)) ?_ ?_
    · rw [za_up_oth _ _ _ (by simp), z1, zu_ne (by omega), zu_eq]
    · exact zgz_tr (zgz_tr zgz_z zgz_z) (by rw [hM1]; exact zgz_g (zg_up (by omega)))
theorem zr_dr {a : Nat} {M : za_M} {K : Int32 → za_M → Prop} (k : K (nI (zus (znx (M.1 (28, 0, 0) 4)))) (za_up M (28, 0, 0) 4 (znx (M.1 (28, 0, 0) 4)))) : f_X10_drawn M K := by
  have v4 : vp_in 4 279 := vp_in_nI (n := 4) (by decide) (by decide)
  simp only [f_X10_drawn, za_let]
  refine ⟨v4, v4, v4, ?_⟩
  rw [show Int32.toNatClampNeg 4 = 4 by decide, za_up_row, zu_eq, zus_eq]
  exact k
theorem zI_seed {M : za_M} (hI : zI M) (x1 : Int32) : zI (za_up (za_up M (1, 0, 0) 6 x1) (28, 0, 0) 4 x1) := by
  refine zT_seed x1 M (fun _ _ M' => M' = za_up (za_up M (1, 0, 0) 6 x1) (28, 0, 0) 4 x1 → zI M') hI (fun v M' h _ => h) |> fun q => ?_
  simp only [f_X9_seed, f_X10_seed, za_let, zq_turn (x := 4) 4 rfl (by decide)] at q
  exact q trivial
theorem zT_loose (x1 : Int32) : zV (f_X9_loose x1) (f_X10_loose x1) := by
  intro M K hI hK
  obtain ⟨nA, nP, nL, bA, bP, bL, rA, rP, rL, cA, cP, cL⟩ := zI_cnt hI
  have cD := hI.2.2.1.1.1.2.2.2
  simp only [f_X9_loose, zf_X9_within]
  have f28 : ∀ (M1 : za_M), (∀ x : za_L, x.1 ≠ 24 → M1.1 x = M.1 x) → M1.1 (28, 0, 0) = M.1 (28, 0, 0) := fun M1 h => h (28, 0, 0) (by decide)
  have v0 : vp_in 0 279 := vp_in_nI (n := 0) (by decide) (by decide)
  have v1 : vp_in 1 279 := vp_in_nI (n := 1) (by decide) (by decide)
  have v3 : vp_in 3 279 := vp_in_nI (n := 3) (by decide) (by decide)
  have z3 : Int32.toNatClampNeg 3 = 3 := by decide
  by_cases q1 : zw x1 1 40 = 0
  · rw [if_pos q1]
    exact zV_ff (R := f_X10_loose x1) (y := -1000000001) 1 rfl (by decide) (by decide) rfl hI hK (fun M1 K' h => by simp only [f_X10_loose, zf_X10_within, q1, if_true])
  rw [if_neg q1, cD]
  by_cases q2 : M.1 (28, 0, 0) 0 + x1 ≤ 9999
  · rw [if_pos q2]
    obtain ⟨n, hn, hn1, rfl⟩ := zw_1n (m := 40) (by decide) q1
    generalize hN0 : M.1 (28, 0, 0) = N at *
    have hN := hI.1.1
    have hT := hI.1.2
    have hL := hI.2.2.1.2.1 1 (by decide)
    rw [hN0] at hN hT hL
    have hC : zc 0 N M := by rw [← hN0]; exact hI.2.2.1.1
    have hz : M.1 (1, 0, 0) 6 = N 4 := by rw [← hN0]; exact hI.2.2.1.2.2.2.2
    refine za_lp1_ind (fun s x M' => ∃ i Ni, x = nI i ∧ i + s = n ∧ zJ N Ni ∧ zc 0 Ni M' ∧ M'.1 (1, 0, 0) 6 = Ni 4 ∧ zgz M M' ∧ zlos s Ni = zlos n N) ?_ ?_ n 0 M ⟨0, N, rfl, by omega, ⟨hN, fun _ _ => rfl⟩, hC, hz, zgz_rf M, rfl⟩
    · intro x M' ⟨i, Ni, e1, e2, kJ, c, z, g, el⟩ L
      subst e1
      have el : Ni = zlos n N := el
      subst el
      simp only [f_X9_loose_b42]
      rw [if_pos (nI_le (by omega) (by omega)), c.1.2.2.1]
      have o : M'.1 (28, 0, 0) = N := (g.1 _ (by simp)).trans hN0
      simp only [f_X10_loose, zf_X10_within]
      rw [if_neg q1, show Int32.toNatClampNeg 0 = 0 by decide, o, if_pos q2]
      refine ⟨v0, ?_⟩
      refine za_lp1_ind (fun s x M2 => ∃ i Ni, x = nI i ∧ i + s = n ∧ zJ N Ni ∧ M2.1 zR = Ni ∧ zk [28, 34, 35] M' M2 ∧ zlos s Ni = zlos n N) ?_ ?_ n 0 M' ⟨0, N, rfl, by omega, ⟨hN, fun _ _ => rfl⟩, o, zk_rf _ _, rfl⟩
      · intro x M2 ⟨i, Ni, e1, e2, kJ2, e3, k2, el⟩ L
        subst e1
        have el : Ni = zlos n N := el
        subst el
        have e3 : M2.1 (28, 0, 0) = zlos n N := e3
        simp only [f_X10_loose_b40]
        rw [if_pos (nI_le (by omega) (by omega)), z3, e3]
        refine ⟨v3, hK _ _ ?_⟩
        have hs := zI_seed hI (zlos n N 4)
        generalize hMz : za_up (za_up M (1, 0, 0) 6 (zlos n N 4)) (28, 0, 0) 4 (zlos n N 4) = Mz at hs
        have e28 : Mz.1 (28, 0, 0) = upd N 4 (zlos n N 4) := by rw [← hMz, za_up_row, za_up_oth _ _ _ (by decide), hN0]
        have e1r : Mz.1 (1, 0, 0) = upd (M.1 (1, 0, 0)) 6 (zlos n N 4) := by rw [← hMz, za_up_oth _ _ _ (by decide), za_up_row]
        have eo : ∀ x : za_L, x ≠ (28, 0, 0) → x ≠ (1, 0, 0) → Mz.1 x = M.1 x := fun x a b => by rw [← hMz, za_up_oth _ _ _ a, za_up_oth _ _ _ b]
        have ep : Mz.2 = M.2 := by rw [← hMz]; rfl
        have g' : zg 0 Mz (za_up M' (28, 0, 0) 4 (zlos n N 4)) := by
          refine ⟨fun x hx => ?_, fun d hd => by rw [ep]; exact g.2.2 d hd⟩
          by_cases a : x = (28, 0, 0)
          · rw [a, za_up_row, e28, o]
          · rw [za_up_oth _ _ _ a]
            by_cases b : x = (1, 0, 0)
            · rw [b, e1r]
              funext j
              by_cases c6 : j = 6
              · rw [c6, zu_eq, z]
              · rw [zu_ne c6, g.2.1 j c6]
            · rw [eo x a b]
              exact g.1 x (fun q => hx (by rcases q with q | q | q
                                           · exact Or.inl q
                                           · exact absurd q b
                                           · exact Or.inr q))
        refine zI_cty (N' := zlos n N) hs g' ⟨fun x hx => ?_, k2.2⟩ kJ.1 e3 (fun k hk => ?_) (zc_cg c (fun x _ hx => za_up_oth _ _ _ (fun q => by rw [q] at hx; simp at hx)) rfl)
        · rw [za_up_oth _ _ _ (fun q => hx (by rw [q]; simp))]
          exact k2.1 x hx
        · rw [e28]
          by_cases z4 : k = 4
          · rw [z4, zu_eq]
          · rw [zu_ne z4]
            exact kJ.2 k (by omega)
      · intro s x M2 ⟨i, Ni, e1, e2, kJ2, e3, k2, el⟩ L hL'
        subst e1
        have e3' : M2.1 (28, 0, 0) = Ni := e3
        have hA := zs_cl kJ2.1.1.1 (by decide)
        have z1 : Int32.toNatClampNeg 1 = 1 := by decide
        have dJ := zdr_N kJ2.1
        have eT : zT (zdr Ni) := zT_cg hT (fun k hk => by rw [dJ.2 k (by omega), kJ2.2 k (by omega)])
        have nxt : ∀ M3 : za_M, M3.1 zR = zdr Ni → zk [28, 34, 35] M2 M3 → f_X10_loose_b83 (fun r2 M2 => K (zlos n N 3) r2 M2) L (nI n) (nI i) M3 := by
          intro M3 w1 w2
          simp only [f_X10_loose_b83]
          refine zr_day (by rw [w1]; exact dJ.1) (by rw [w1]; exact eT) (fun M4 n1 n2 => ?_)
          rw [nI_1]
          exact hL' _ _ ⟨i + 1, zld1 Ni, rfl, by omega, zJ_tr kJ2 (zJ_tr (zJ_dr kJ2.1) (zJ_day dJ.1)), by rw [n1, w1]; rfl, zk_tr k2 (zk_tr w2 n2), el⟩
        simp only [f_X10_loose_b40]
        rw [if_neg (by rw [nI_leI (by omega) (by omega)]; omega), z1, e3', hA.2]
        refine ⟨v1, ?_⟩
        have ed : zdr Ni = _ := rfl
        by_cases q : (Ni 1).toNatClampNeg = 0
        · rw [q, if_pos (by decide)]
          exact nxt M2 (by rw [e3]; unfold zdr; rw [if_pos q]) (zk_rf _ _)
        · rw [if_neg (nI_nle (by omega) (by omega))]
          have hm : zus (znx (Ni 4)) % (Ni 1).toNatClampNeg < (Ni 1).toNatClampNeg := Nat.mod_lt _ (by omega)
          have w1 := zus_lt (znx (Ni 4))
          have w2 := zus_lt (znx (znx (Ni 4)))
          refine zr_dr (a := 0) ?_
          rw [e3', za_up_row, e3', zu_ne (show 1 ≠ 4 by decide), hA.2]
          simp only [za_let]
          refine ⟨v1, nI_ne0 (by omega) (by omega), ?_⟩
          rw [pk_rem (by omega) (by omega) (by omega), zq_ashAt (y := 2) _ 2 rfl rfl]
          refine zr_dr (a := 0) ?_
          rw [za_up_row, e3', zu_eq, zl_lit 10, pk_rem (by omega) (by omega) (by omega)]
          refine ⟨vp_in_nI (by omega) (by decide), ?_⟩
          rw [nI_clamp (by omega)]
          refine nxt _ ?_ (zk_tr (zk_up (by decide)) (zk_tr (zk_up (by decide)) (zk_up (by decide))))
          rw [za_up_row, za_up_row, za_up_row, e3']
          unfold zdr
          rw [if_neg q, show 7 + 4 * (zus (znx (Ni 4)) % (Ni 1).toNatClampNeg) + 2 = 9 + 4 * (zus (znx (Ni 4)) % (Ni 1).toNatClampNeg) by omega]
    · intro s x M' ⟨i, Ni, e1, e2, kJ, c, z, g, el⟩ L hL'
      subst e1
      simp only [f_X9_loose_b42]
      rw [if_neg (by rw [nI_leI (by omega) (by omega)]; omega), zZ1]
      have dJ := zdr_N kJ.1
      refine zc_dr kJ.1 c z (fun M2 c2 z2 g2 => ⟨vp_in_nI (n := 1) (by decide) (by decide), ?_⟩)
      have gg := zgz_tr g g2
      have tu := zTu_cg (N := N) (N' := zdr Ni) (fun k hk => by rw [dJ.2 k (by omega), kJ.2 k (by omega)]) 1
      refine zc_days (n := 1) rfl (by decide) dJ.1 c2 (by rw [tu.1, tu.2]; exact zlw_cg hL (gg.1 _ (by simp)) (gg.1 _ (by simp))) (fun M3 c3 g3 => ?_)
      rw [nI_1]
      have kd := zday_K dJ.1
      refine hL' _ _ ⟨i + 1, zld1 Ni, rfl, by omega, zJ_tr kJ (zJ_tr (zJ_dr kJ.1) (zJ_day dJ.1)), c3, ?_, zgz_tr gg (zgz_g g3), el⟩
      rw [g3.1 (1, 0, 0) (by simp), z2]
      exact (kd.2 4 (by omega) (by omega) (by omega)).symm
  · rw [if_neg q2]
    refine zV_ff (R := f_X10_loose x1) (y := -1000000003) 3 rfl (by decide) (by decide) rfl hI hK (fun M1 K' h => ?_)
    simp only [f_X10_loose, zf_X10_within]
    rw [if_neg q1, eq_true v0, true_and, show Int32.toNatClampNeg 0 = 0 by decide, f28 M1 h, if_neg q2]
