/-! text: class and reference alike, the end -/
theorem ztx_T {N : Nat → Int32} {u : Nat} {L : List Nat} (hu : u < 2) (hl : L.length ≤ 50) (hz : zdp L 0 = some 1) (h : zT N) : zT (ztx N u L) ∧ zTn (ztx N u L) u = L.length ∧ (∀ i, i < L.length → zTf (ztx N u L) u i = L.getD i 0) ∧ (∀ v, v < 2 → v ≠ u → zTn (ztx N u L) v = zTn N v ∧ ∀ i, i < zTn N v → zTf (ztx N u L) v i = zTf N v i) := by
  have el : ∀ i, i < L.length → L.getD i 0 < 20011 := zdp_lt L 0 1 hz
  have n1 : ztx N u L (175 + 52 * u) = nI L.length := by
    unfold ztx
    rw [if_neg (by omega), if_pos rfl]
  have n2 : ∀ i, i < L.length → ztx N u L (176 + 52 * u + i) = nI (L.getD i 0) := fun i hi => by
    unfold ztx
    rw [if_neg (by omega), if_neg (by omega), if_pos (by omega), show 176 + 52 * u + i - (176 + 52 * u) = i by omega]
  have t1 : zTn (ztx N u L) u = L.length := by
    unfold zTn
    rw [n1, nI_clamp (by omega)]
  have t2 : ∀ i, i < L.length → zTf (ztx N u L) u i = L.getD i 0 := fun i hi => by
    unfold zTf
    rw [n2 i hi, nI_clamp (by have := el i hi; omega)]
  have t3 : ∀ v, v < 2 → v ≠ u → zTn (ztx N u L) v = zTn N v ∧ ∀ i, i < zTn N v → zTf (ztx N u L) v i = zTf N v i := fun v hv hn => by
    have b := (h v hv).2.1
    refine ⟨?_, fun i hi => ?_⟩
    · unfold zTn ztx
      rw [if_neg (by omega), if_neg (by omega), if_neg (by omega)]
    · unfold zTf ztx
      rw [if_neg (by omega), if_neg (by omega), if_neg (by omega)]
  refine ⟨fun v hv => ?_, t1, t2, t3⟩
  by_cases z : v = u
  · subst z
    rw [t1]
    refine ⟨n1, hl, fun i hi => by rw [t2 i hi]; exact n2 i hi, Or.inr (zdp_wf _ L 0 0 (fun i hi => by rw [Nat.zero_add]; exact t2 i hi) hz)⟩
  · obtain ⟨e1, e2⟩ := t3 v hv z
    obtain ⟨h1, h2, h3, h4⟩ := h v hv
    rw [e1]
    refine ⟨?_, h2, fun i hi => ?_, h4.imp id (fun q => zwf_cg _ _ _ 0 0 (fun i hi => by rw [Nat.zero_add]; exact e2 i hi) q)⟩
    · unfold ztx
      rw [if_neg (by omega), if_neg (by omega), if_neg (by omega)]
      exact h1
    · rw [e2 i hi]
      unfold ztx
      rw [if_neg (by omega), if_neg (by omega), if_neg (by omega)]
      exact h3 i hi
theorem zT_text (x1 : Int32) : zV (f_X9_text x1) (f_X10_text x1) := by
  intro M K hI hK
  rcases (zw_cs x1 (n := 2) (by omega)).symm with q1 | ⟨u, hu, rfl, q1⟩
  · have q1 : zw x1 0 1 = 0 := q1
    simp only [f_X9_text, f_X9_isUse, zf_X9_within, eq_true (zw_B _ _ _), true_and]
    rw [q1, if_pos rfl]
    exact zV_ff (R := f_X10_text x1) (y := -1000000001) 1 rfl (by decide) (by decide) rfl hI hK (fun M1 K' h => by simp only [f_X10_text, zf_X10_within, q1, if_true])
  obtain ⟨t, ht, e5⟩ := hI.1.1.1.2.2.2.1
  have s := hI.2.2.1
  have hT : ∀ i, i < t → (fun i => (M.1 (28, 0, 0) (105 + i)).toNatClampNeg) i < 256 ∧ M.1 (28, 0, 0) (105 + i) = nI ((fun i => (M.1 (28, 0, 0) (105 + i)).toNatClampNeg) i) := fun i hi => by
    exact zs_cl (hI.1.1.2.2.2.2 i (by omega)) (by decide)
  generalize (fun i => (M.1 (28, 0, 0) (105 + i)).toNatClampNeg) = T at hT
  have hg := zgF_lv (T := T) (zgF_pt (T := T) (n := t) hu (fun i hi => (hT i hi).1) 5) 5 (0, []) (Nat.zero_le _)
  generalize hr : zlv T t (zpt T t u 5) 5 (0, []) = r at hg
  obtain ⟨g1, _, g3⟩ := hg
  have n0 : zN (upd (M.1 (28, 0, 0)) 5 0) := zN_up5 hI.1.1 (Or.inl ⟨rfl, zs_nI (n := 0) (by decide)⟩)
  have all : ∀ v Mc Mr, zxq u r t M Mc → zxr u r t Mc Mr → K v v Mr := by
    intro v Mc Mr ⟨c1, c2, c3, c4, c5⟩ ⟨r1, r2, r3, r15, r5, r6⟩
    have e28 : Mc.1 (28, 0, 0) = M.1 (28, 0, 0) := c1 _ (by simp) (by simp) (by simp) (by simp) (fun _ => ⟨by simp, by simp⟩)
    have e27 : Mc.1 (27, 0, 0) = M.1 (27, 0, 0) := c1 _ (by simp) (by simp) (by simp) (by simp) (fun _ => ⟨by simp, by simp⟩)
    rw [e28] at r5 r6
    by_cases good : r.1 = true ∧ r.2.1 = t
    · obtain ⟨_, g, g5, g6, g7⟩ := g3 good.1
      have eg : r.2.2 = g := g5
      have g6 : g.length + 0 ≤ r.2.1 := g6
      have l50 : r.2.2.length ≤ 50 := by rw [eg]; omega
      have hz : zdp r.2.2 0 = some 1 := by rw [eg]; exact g7 0
      obtain ⟨a1, a2, a3, a4⟩ := ztx_T hu l50 hz hI.1.2
      obtain ⟨d1, d2, d3⟩ := c5 good
      refine hK _ _ (zI_tx (N' := ztx (M.1 (28, 0, 0)) u r.2.2) hI (zN_eq n0 (fun k h1 h2 h3 => ?_)) a1 (r5 good) (fun k h1 h2 => ?_) (by unfold ztx; rw [if_pos rfl]) (fun j hj => ?_) (by rw [r1 _ (by decide) (by decide) (by decide)]; exact c3) (fun j hj => by rw [r1 _ (by decide) (by decide) (by decide)]; exact c4 j hj) (fun w hw => ?_) (fun x b1 b2 b3 b4 b5 b6 b7 b8 b9 => ?_) (by rw [r3, e27]) (by rw [r15, e27]) (by rw [r2, c2]))
      · unfold ztx
        by_cases z : k = 5
        · rw [if_pos z, z, zu_eq]
        · rw [if_neg z, if_neg (by omega), if_neg (by omega), zu_ne z]
      · unfold ztx
        rw [if_neg h2, if_neg (by omega), if_neg (by omega)]
      · unfold ztx
        rw [if_neg (by omega), if_neg (by omega), if_neg (by omega)]
      · by_cases z : w = u
        · subst z
          rw [a2]
          have l := s.2.1 w hw
          refine ⟨?_, ?_, l50, fun i hi => ?_, Or.inr (zdp_wf _ r.2.2 0 0 (fun i hi => by rw [Nat.zero_add]; exact a3 i hi) hz)⟩
          · rw [r1 _ (by simp) (by simp) (by simp), d1 0 (by decide)]
            exact l.1
          · rw [r1 _ (by simp) (by simp) (by simp)]
            exact d2
          · rw [r1 _ (by simp) (by simp) (by simp), a3 i hi]
            exact d3 i hi
        · obtain ⟨f1, f2⟩ := a4 w hw z
          rw [f1]
          refine zlw_f (zlw_cg (s.2.1 w hw) ?_ ?_) f2
          · rw [r1 _ (by simp) (by simp) (by simp)]
            exact c1 _ (by simp) (by simp) (by simp) (by simp) (fun _ => ⟨by simp [z], by simp⟩)
          · rw [r1 _ (by simp) (by simp) (by simp)]
            exact c1 _ (by simp) (by simp) (by simp) (by simp) (fun _ => ⟨by simp, by simp [z]⟩)
      · rw [r1 x b9 b6 b7]
        exact c1 x b3 b4 b5 b8 (fun _ => ⟨fun q => b1 (by rw [q]; exact ⟨rfl, rfl⟩), fun q => b2 (by rw [q]; exact ⟨rfl, rfl⟩)⟩)
    · refine hK _ _ (zI_tx (N' := upd (M.1 (28, 0, 0)) 5 0) hI n0 (zT_cg hI.1.2 (fun k hk => zu_ne (by omega))) (r6 good) (fun k h1 h2 => zu_ne h2) zu_eq (fun j hj => zu_ne (by omega)) (by rw [r1 _ (by decide) (by decide) (by decide)]; exact c3) (fun j hj => by rw [r1 _ (by decide) (by decide) (by decide)]; exact c4 j hj) (fun w hw => ?_) (fun x b1 b2 b3 b4 b5 b6 b7 b8 b9 => ?_) (by rw [r3, e27]) (by rw [r15, e27]) (by rw [r2, c2]))
      · have f1 : zTn (upd (M.1 (28, 0, 0)) 5 0) w = zTn (M.1 (28, 0, 0)) w := by unfold zTn; rw [zu_ne (by omega)]
        have f2 : zTf (upd (M.1 (28, 0, 0)) 5 0) w = zTf (M.1 (28, 0, 0)) w := by funext i; unfold zTf; rw [zu_ne (by omega)]
        rw [f1, f2]
        refine zlw_cg (s.2.1 w hw) ?_ ?_
        · rw [r1 _ (by simp) (by simp) (by simp)]
          exact c1 _ (by simp) (by simp) (by simp) (by simp) (fun q => absurd q good)
        · rw [r1 _ (by simp) (by simp) (by simp)]
          exact c1 _ (by simp) (by simp) (by simp) (by simp) (fun q => absurd q good)
      · rw [r1 x b9 b6 b7]
        exact c1 x b3 b4 b5 b8 (fun q => absurd q good)
  refine zq_text hI hu (by omega) e5 hT hr (fun good Mc hc => ?_) (fun bad Mc hc => ?_)
  · have e28 : Mc.1 (28, 0, 0) = M.1 (28, 0, 0) := hc.1 _ (by simp) (by simp) (by simp) (by simp) (fun _ => ⟨by simp, by simp⟩)
    exact zv_text hu (by omega) (by rw [e28]; exact e5) (by rw [e28]; exact hT) hr (fun _ Mr hr => all _ Mc Mr hc hr) (fun b => absurd good b)
  · have e28 : Mc.1 (28, 0, 0) = M.1 (28, 0, 0) := hc.1 _ (by simp) (by simp) (by simp) (by simp) (fun _ => ⟨by simp, by simp⟩)
    exact zv_text hu (by omega) (by rw [e28]; exact e5) (by rw [e28]; exact hT) hr (fun b => absurd b bad) (fun _ Mr hr => all _ Mc Mr hc hr)
