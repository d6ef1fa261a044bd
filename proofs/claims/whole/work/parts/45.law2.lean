/-- w' differs from w at most in the live circuit -/
def qb (w w' : wdT) : Prop := (∀ a b r k i, ¬ (a = 0 ∧ b = 0) → wI w' a b r k i = wI w a b r k i) ∧ (∀ a b r k i, ¬ (a = 0 ∧ b = 0) → wL w' a b r k i = wL w a b r k i) ∧ wP w' = wP w
theorem qb_rf (w : wdT) : qb w w := ⟨fun _ _ _ _ _ _ => rfl, fun _ _ _ _ _ _ => rfl, rfl⟩
theorem qb_tr {w u v : wdT} (h : qb w u) (h' : qb u v) : qb w v := ⟨fun a b r k i z => (h'.1 a b r k i z).trans (h.1 a b r k i z), fun a b r k i z => (h'.2.1 a b r k i z).trans (h.2.1 a b r k i z), h'.2.2.trans h.2.2⟩
theorem qb_I (w : wdT) (r k i : Nat) (x : Int32) : qb w (sI w 0 0 r k i x) := ⟨fun a b r' k' i' z => by rw [rd_II, if_neg (by omega)], fun _ _ _ _ _ _ => rfl, rfl⟩
theorem qb_L (w : wdT) (r k i : Nat) (x : Int64) : qb w (sL w 0 0 r k i x) := ⟨fun _ _ _ _ _ _ => rfl, fun a b r' k' i' z => by rw [rd_LL, if_neg (by omega)], rfl⟩
theorem qb_qk {w u : wdT} (h : qk w u 0) : qb w u := ⟨fun a b r k i z => h.1 a b r k i (by omega), fun a b r k i z => h.2.1 a b r k i (by omega), h.2.2⟩
theorem qb_qr {w u : wdT} (h : qr w u 0) : qb w u := ⟨fun a b r k i z => h.1 a b r k i (by omega), fun a b r k i z => h.2.1 a b r k i (by omega), h.2.2⟩
theorem qb_I2 {w u : wdT} (h : qb w u) (r k i : Nat) (x : Int32) : qb w (sI u 0 0 r k i x) := qb_tr h (qb_I _ _ _ _ _)
theorem qb_L2 {w u : wdT} (h : qb w u) (r k i : Nat) (x : Int64) : qb w (sL u 0 0 r k i x) := qb_tr h (qb_L _ _ _ _ _)
theorem qb_an (w : wdT) : qb w (anX w) := qb_I2 (qb_L2 (qb_L2 (qb_L2 (qb_I2 (qb_I2 (qb_I _ _ _ _ _) _ _ _ _) _ _ _ _) _ _ _ _) _ _ _ _) _ _ _ _) _ _ _ _
theorem qb_ac (w : wdT) (kd ck dt lm : Int32) : qb w (acX w kd ck dt lm) := qb_I2 (qb_I2 (qb_I2 (qb_I2 (qb_I2 (qb_I _ _ _ _ _) _ _ _ _) _ _ _ _) _ _ _ _) _ _ _ _) _ _ _ _
theorem qb_apW (w : wdT) (c : Nat) (act n : Int32) (t : Int64) (v : Int32) : qb w (apW w 0 c act n t v) := qb_I2 (qb_I2 (qb_L2 (qb_I2 (qb_I _ _ _ _ _) _ _ _ _) _ _ _ _) _ _ _ _) _ _ _ _
theorem qb_dl (w : wdT) (g : Nat) (r s : Int32) : qb w (dlW w 0 g r s) := qb_I2 (qb_I _ _ _ _ _) _ _ _ _
theorem qb_ag0 (w : wdT) (ng : Nat) (kd a b o : Int32) : qb w (ag0 w 0 ng kd a b o) := qb_I2 (qb_I2 (qb_I2 (qb_I2 (qb_I2 (qb_I2 (qb_I2 (qb_I2 (qb_I2 (qb_I _ _ _ _ _) _ _ _ _) _ _ _ _) _ _ _ _) _ _ _ _) _ _ _ _) _ _ _ _) _ _ _ _) _ _ _ _) _ _ _ _
theorem qb_ag (w : wdT) (kd a b o : Int32) : qb w (agX w kd a b o) := by
  unfold agX agW
  have h : qb w (ag1 w 0 (nz (wI w 0 0 0 4 0)) (nz (wI w 0 0 0 6 0)) (nz (wI w 0 0 9 0 0)) kd (nz a) (nz b) (nz o)) := by
    unfold ag1
    exact qb_tr (qb_ag0 _ _ _ _ _ _) (qb_qr (qr_rfW _ _ _ _ _ _))
  split
  · exact h
  · exact qb_tr h (qb_qk (qk_ask _ _ _ _ _ _))
theorem qb_dr (w : wdT) (p : Nat) : ∀ n, qb w (drW w 0 p n)
  | 0 => qb_rf w
  | n + 1 => by
    unfold drW shW
    exact qb_I2 (qb_L2 (qb_I2 (qb_I2 (qb_dr w p n) _ _ _ _) _ _ _ _) _ _ _ _) _ _ _ _
theorem qb_th (w : wdT) (h : Nat) : qb w (thX w 0 h) := by
  unfold thX thW dpW
  refine qb_I2 (qb_tr ?_ (qb_dr _ _ _)) _ _ _ _
  unfold thN
  repeat' split
  all_goals exact qb_I _ _ _ _ _
theorem qb_tk (w : wdT) (g : Nat) : qb w (tkW w 0 g) := qb_I2 (qb_L2 (qb_I2 (qb_I _ _ _ _ _) _ _ _ _) _ _ _ _) _ _ _ _
theorem qb_rfX (w : wdT) (q : Nat) : qb w (rfX w 0 q) := qb_qr (qr_rfW _ _ _ _ _ _)
theorem qb_ad (y : Int64) : ∀ m u ge came, qb u (adW 0 y m u ge came).1
  | 0, u, _, _ => qb_rf u
  | m + 1, u, ge, came => by
    rw [adW_s]
    split
    · exact qb_L _ _ _ _ _
    · split
      · exact qb_tr (qb_tr (qb_tr (qb_L _ _ _ _ _) (qb_th _ _)) (qb_rfX _ _)) (qb_ad y m _ _ _)
      · split
        · exact qb_L _ _ _ _ _
        · exact qb_tr (qb_tr (qb_tr (qb_L _ _ _ _ _) (qb_tk _ _)) (qb_rfX _ _)) (qb_ad y m _ _ _)
theorem qb_apL : ∀ (L : List (Int32 × Int64 × Int32)) (u : wdT), qb u (apL u L)
  | [], u => qb_rf u
  | x :: L, u => qb_tr (qb_apW u _ _ _ _ _) (qb_apL L (ap1 u x))
theorem qb_psU (w : wdT) : qb w (psU w 1) := by
  rw [show psU w 1 = apL w (allL w) from psT_apL w _ _ _ _]
  exact qb_apL _ _
theorem qb_cp (w : wdT) {i : Nat} (h : i ≠ 0) : qb w (cpC w 0 i) := ⟨fun a b r k i z => cpC_In w h z, fun a b r k i z => cpC_Ln w h z, cpC_P w 0 _⟩
/-- between two calls: the class and the reference stand for the same -/
def LIp (K : Nat) (w : wdT) (s : Nat) : Prop := Rel K w 0 (mS w) ∧ ct (wI w 2 0 1 0 0) 2000 ∧ tpR w w ∧ s ≤ 4 ∧ wI w 1 0 0 2 0 = nI s ∧ wI w 4 0 0 3 0 = nI s ∧ ∀ i, i < s → Rel K w (i + 1) (fun k => wI w 4 0 2 0 (3300 * i + k))
theorem LIp_st {K K' s : Nat} {w c' w2 : wdT} {f2 : Nat → Int32} (h : LIp K w s) (hK : K ≤ K') (hq : qb w c') (hR : Rel K' c' 0 f2) (h1 : ∀ a b r k i, a ≤ 2 → wI w2 a b r k i = wI c' a b r k i) (h1L : ∀ a b r k i, a ≤ 2 → wL w2 a b r k i = wL c' a b r k i)
    (h4 : ∀ r k i, (r = 2 ∨ r = 3) ∧ k = 0 ∨ r = 0 ∧ i = 0 ∧ (k = 3 ∨ k = 5) → wI w2 4 0 r k i = wI w 4 0 r k i) (hf : ∀ k, wI w2 4 0 1 0 k = f2 k) : LIp K' w2 s := by
  obtain ⟨a1, a2, a3, a4, a5, a6, a7⟩ := h
  have hs : mS w2 = f2 := funext hf
  have e2 : ∀ r k i, wI w2 2 0 r k i = wI w 2 0 r k i := fun r k i => (h1 2 0 r k i (by omega)).trans (hq.1 2 0 r k i (by omega))
  have en : tn w2 = tn w := by show nz (wI w2 2 0 1 0 0) = _; rw [e2]
  refine ⟨?_, by rw [e2]; exact a2, ⟨by rw [e2, h4 0 5 0 (by omega)]; exact a3.1, fun i hi => by rw [e2, h4 3 0 i (by omega)]; exact a3.2 i (by rw [← en]; exact hi)⟩, a4, by rw [h1 1 0 0 2 0 (by omega), hq.1 1 0 0 2 0 (by omega)]; exact a5, by rw [h4 0 3 0 (by omega)]; exact a6, fun i hi => ?_⟩
  · rw [hs]
    exact Rel_eq (fun r k i => h1 0 0 r k i (by omega)) (fun r k i => h1L 0 0 r k i (by omega)) hR
  · have e : (fun k => wI w2 4 0 2 0 (3300 * i + k)) = (fun k => wI w 4 0 2 0 (3300 * i + k)) := funext (fun k => h4 2 0 _ (by omega))
    rw [e]
    exact Rel_eq (fun r k j => (h1 0 (i + 1) r k j (by omega)).trans (hq.1 0 (i + 1) r k j (by omega))) (fun r k j => (h1L 0 (i + 1) r k j (by omega)).trans (hq.2.1 0 (i + 1) r k j (by omega))) (Rel_K hK (a7 i hi))
/-- .. behind a call of both -/
theorem LIp_1 {K K' s : Nat} {w c' : wdT} {f2 : Nat → Int32} {v : Int64} {T : Int32} (h : LIp K w s) (hK : K ≤ K') (hq : qb w c') (hR : Rel K' c' 0 f2) : LIp K' (mW (sI (sL c' 3 0 0 0 0 v) 4 0 0 0 0 T) f2) s := by
  refine LIp_st h hK hq hR (fun a b r k i z => ?_) (fun a b r k i z => ?_) (fun r k i z1 => ?_) (fun k => mW_r _ _ _)
  · rw [mW_n _ _ (by omega), rd_II, if_neg (by omega), rd_IL]
  · rw [mW_L, rd_LI, rd_LL, if_neg (by omega)]
  · rw [mW_n _ _ (by omega), rd_II, if_neg (by omega), rd_IL]
    exact hq.1 4 0 r k i (by omega)
theorem LIp_0 {K K' s : Nat} {w c' : wdT} {f2 : Nat → Int32} {T : Int32} (h : LIp K w s) (hK : K ≤ K') (hq : qb w c') (hR : Rel K' c' 0 f2) : LIp K' (mW (sI c' 4 0 0 0 0 T) f2) s := by
  refine LIp_st h hK hq hR (fun a b r k i z => ?_) (fun a b r k i z => ?_) (fun r k i z1 => ?_) (fun k => mW_r _ _ _)
  · rw [mW_n _ _ (by omega), rd_II, if_neg (by omega)]
  · rw [mW_L, rd_LI]
  · rw [mW_n _ _ (by omega), rd_II, if_neg (by omega)]
    exact hq.1 4 0 r k i (by omega)
/-- the reference's part is untouched by the class -/
theorem mW_qb {w c' : wdT} (hq : qb w c') : mW c' (mS w) = c' := by
  have e : mS w = mS c' := funext (fun k => (hq.1 4 0 1 0 k (by omega)).symm)
  rw [e]
  exact mW_w c'
theorem mW_qb1 {w c' : wdT} {v : Int64} (hq : qb w c') : mW (sL c' 3 0 0 0 0 v) (mS w) = sL c' 3 0 0 0 0 v := by
  have e : mS w = mS (sL c' 3 0 0 0 0 v) := funext (fun k => (hq.1 4 0 1 0 k (by omega)).symm)
  rw [e]
  exact mW_w _
theorem Rel_lt {K : Nat} {c : wdT} {ι : Nat} {f f' : Nat → Int32} (hf : ∀ k, k < 3300 → f' k = f k) (h : Rel K c ι f) : Rel K c ι f' := by
  obtain ⟨⟨o1, o2, o3, o4, o5, o6, o7, o8⟩, ht, hN, hG, hC, hH, hW⟩ := h
  have b1 := o1.2
  have b2 := o2.2
  have b3 := o3.2
  have b4 := o4.2
  have b5 := o5.2
  refine ⟨⟨o1, o2, o3, o4, o5, o6, o7, o8⟩, ?_, fun n hn => ?_, fun g hg => ?_, fun k hk => ?_, fun i hi => ?_, fun k hk => ?_⟩
  · unfold RT at ht ⊢
    rw [hf 0 (by omega), hf 1 (by omega), hf 2 (by omega), hf 3 (by omega), hf 4 (by omega), hf 5 (by omega), hf 6 (by omega), hf 7 (by omega)]
    exact ht
  · exact RN_cg (Nat.le_refl K) (fun _ => rfl) (fun _ => rfl) (fun j hj => hf _ (by unfold cN at hn; omega)) (hN n hn)
  · exact RG_cg (Nat.le_refl _) (fun _ => rfl) (fun _ => rfl) (fun j hj => hf _ (by unfold cG at hg; omega)) (hf 0 (by omega)) (fun z => by rw [hf _ (by have := (o6 g hg).2.2.2; unfold nz; omega)]; exact z) (hG g hg)
  · exact RK_cg (Nat.le_refl _) (fun _ => rfl) (fun j hj => hf _ (by unfold cK at hk; omega)) (hC k hk)
  · exact RH_cg (Nat.le_refl _) (fun _ _ _ => rfl) rfl (fun j h1 h2 => hf j (by unfold cH at hi; omega)) (hf 0 (by omega)) (by rw [hf 7 (by omega)]; exact Int32.le_refl _) (hH i hi)
  · exact RW_cg (fun _ _ _ => rfl) (fun j hj => hf _ (by unfold cW at hk; omega)) (hW k hk)
/-- unit -/
theorem LIp_u {K s : Nat} {w : wdT} {u : Int32} (h : LIp K w s) : LIp K (mW (tpM (sI (tpW w u) 4 0 0 0 0 0) u) (mS w)) s ∧ mW (tpW w u) (mS w) = tpW w u ∧ wI (tpW w u) 4 0 0 5 0 = wI w 4 0 0 5 0 := by
  obtain ⟨a1, a2, a3, a4, a5, a6, a7⟩ := h
  have hT : ∀ a b r k i, ¬ (a = 2 ∧ b = 0) → wI (tpW w u) a b r k i = wI w a b r k i := fun a b r k i z => by
    unfold tpW
    split
    · rw [rd_II, if_neg (by omega), rd_II, if_neg (by omega)]
    · rfl
  have hTL : ∀ a b r k i, wL (tpW w u) a b r k i = wL w a b r k i := fun a b r k i => by
    unfold tpW
    split <;> rfl
  have hM : ∀ a b r k i, ¬ (a = 4 ∧ b = 0 ∧ (r = 3 ∨ (r = 0 ∧ (k = 0 ∨ k = 5)))) → wI (tpM (sI (tpW w u) 4 0 0 0 0 0) u) a b r k i = wI (tpW w u) a b r k i := fun a b r k i z => by
    unfold tpM
    split
    · rw [rd_II, if_neg (by omega), rd_II, if_neg (by omega), rd_II, if_neg (by omega)]
    · rw [rd_II, if_neg (by omega)]
  have hML : ∀ a b r k i, wL (tpM (sI (tpW w u) 4 0 0 0 0 0) u) a b r k i = wL (tpW w u) a b r k i := fun a b r k i => by
    unfold tpM
    split <;> rfl
  have e5 : wI (sI (tpW w u) 4 0 0 0 0 0) 4 0 0 5 0 = wI w 4 0 0 5 0 := by rw [rd_II, if_neg (by omega), hT _ _ _ _ _ (by omega)]
  have hW : ∀ a b r k i, ¬ (a = 4 ∧ b = 0 ∧ (r = 1 ∨ r = 3 ∨ (r = 0 ∧ (k = 0 ∨ k = 5)))) → ¬ (a = 2 ∧ b = 0) → wI (mW (tpM (sI (tpW w u) 4 0 0 0 0 0) u) (mS w)) a b r k i = wI w a b r k i := fun a b r k i z1 z2 => by
    rw [mW_n _ _ (by omega), hM _ _ _ _ _ (by omega), hT _ _ _ _ _ z2]
  have hWL : ∀ a b r k i, wL (mW (tpM (sI (tpW w u) 4 0 0 0 0 0) u) (mS w)) a b r k i = wL w a b r k i := fun a b r k i => by
    rw [mW_L, hML, hTL]
  have h2 : ∀ r k i, wI (mW (tpM (sI (tpW w u) 4 0 0 0 0 0) u) (mS w)) 2 0 r k i = wI (tpW w u) 2 0 r k i := fun r k i => by
    rw [mW_n _ _ (by omega), hM _ _ _ _ _ (by omega)]
  have hn := a2.2
  refine ⟨⟨?_, ?_, ?_, a4, by rw [hW _ _ _ _ _ (by omega) (by omega)]; exact a5, by rw [hW _ _ _ _ _ (by omega) (by omega)]; exact a6, fun i hi => ?_⟩, ?_, hT _ _ _ _ _ (by omega)⟩
  · rw [show mS (mW (tpM (sI (tpW w u) 4 0 0 0 0 0) u) (mS w)) = mS w from funext (fun k => mW_r _ _ _)]
    exact Rel_eq (fun r k i => hW _ _ _ _ _ (by omega) (by omega)) (fun r k i => hWL _ _ _ _ _) a1
  · rw [h2]
    unfold tpW
    split
    · rename_i z
      rw [rd_II, if_pos (by simp), a2.1, nI_1]
      rw [a2.1] at z
      have := (nI_ltI (a := nz (wI w 2 0 1 0 0)) (b := 2000) (by omega) (by decide)).mp z
      exact ct_nI (by omega) (by decide)
    · exact a2
  · have et : (wI w 4 0 0 5 0) = wI w 2 0 1 0 0 := a3.1
    by_cases z : wI w 2 0 1 0 0 < 2000
    · have z2 := z
      rw [a2.1] at z2
      have z3 := (nI_ltI (a := nz (wI w 2 0 1 0 0)) (b := 2000) (by omega) (by decide)).mp z2
      have l2 : wI (mW (tpM (sI (tpW w u) 4 0 0 0 0 0) u) (mS w)) 2 0 1 0 0 = nI (nz (wI w 2 0 1 0 0) + 1) := by
        rw [h2]
        unfold tpW
        rw [if_pos z, rd_II, if_pos (by simp), a2.1, nI_1]
        congr 2
        unfold nz
        rw [nI_clamp (by unfold nz at z3; omega)]
      have l5 : wI (mW (tpM (sI (tpW w u) 4 0 0 0 0 0) u) (mS w)) 4 0 0 5 0 = nI (nz (wI w 2 0 1 0 0) + 1) := by
        rw [mW_n _ _ (by omega)]
        unfold tpM
        rw [e5, et, if_pos z, rd_II, if_pos (by simp), a2.1, nI_1]
        congr 2
        unfold nz
        rw [nI_clamp (by unfold nz at z3; omega)]
      have etn : tn (mW (tpM (sI (tpW w u) 4 0 0 0 0 0) u) (mS w)) = nz (wI w 2 0 1 0 0) + 1 := by
        show nz (wI (mW (tpM (sI (tpW w u) 4 0 0 0 0 0) u) (mS w)) 2 0 1 0 0) = _
        rw [l2]
        show (nI (nz (wI w 2 0 1 0 0) + 1)).toNatClampNeg = _
        exact nI_clamp (by omega)
      refine ⟨by rw [l5, l2], fun i hi => ?_⟩
      rw [etn] at hi
      rw [h2, mW_n _ _ (by omega)]
      unfold tpM
      rw [e5, et, if_pos z, rd_II, if_neg (by omega), rd_II]
      have e2 : wI (tpW w u) 2 0 2 0 i = if i = nz (wI w 2 0 1 0 0) then u else wI w 2 0 2 0 i := by
        unfold tpW
        rw [if_pos z, rd_II, if_neg (by omega), rd_II]
        by_cases q : i = nz (wI w 2 0 1 0 0)
        · rw [if_pos q, if_pos (by simp [q])]
        · rw [if_neg q, if_neg (by omega)]
      rw [e2]
      by_cases q : i = nz (wI w 2 0 1 0 0)
      · rw [if_pos q, if_pos (by simp [q])]
      · rw [if_neg q, if_neg (by omega), rd_II, if_neg (by omega), hT _ _ _ _ _ (by omega)]
        exact a3.2 i (by show i < nz (wI w 2 0 1 0 0); omega)
    · have f2 : tpW w u = w := by unfold tpW; rw [if_neg z]
      have f4 : tpM (sI (tpW w u) 4 0 0 0 0 0) u = sI (tpW w u) 4 0 0 0 0 0 := by
        unfold tpM
        rw [e5, et, if_neg z]
      rw [f4, f2]
      have g2 : ∀ r k i, wI (mW (sI w 4 0 0 0 0 0) (mS w)) 2 0 r k i = wI w 2 0 r k i := fun r k i => by rw [mW_n _ _ (by omega), rd_II, if_neg (by omega)]
      refine ⟨by rw [g2, mW_n _ _ (by omega), rd_II, if_neg (by omega)]; exact a3.1, fun i hi => ?_⟩
      rw [g2, mW_n _ _ (by omega), rd_II, if_neg (by omega)]
      refine a3.2 i ?_
      have : tn (mW (sI w 4 0 0 0 0 0) (mS w)) = tn w := by show nz (wI (mW (sI w 4 0 0 0 0 0) (mS w)) 2 0 1 0 0) = _; rw [g2]
      rw [this] at hi
      exact hi
  · have e : (fun k => wI (mW (tpM (sI (tpW w u) 4 0 0 0 0 0) u) (mS w)) 4 0 2 0 (3300 * i + k)) = (fun k => wI w 4 0 2 0 (3300 * i + k)) := funext (fun k => hW _ _ _ _ _ (by omega) (by omega))
    rw [e]
    exact Rel_eq (fun r k j => hW _ _ _ _ _ (by omega) (by omega)) (fun r k j => hWL _ _ _ _ _) (a7 i hi)
  · have e : mS w = mS (tpW w u) := funext (fun k => (hT 4 0 1 0 k (by omega)).symm)
    rw [e]
    exact mW_w _

/-- read went through -/
theorem LIp_r0 {K s : Nat} {w w2 : wdT} {f2 : Nat → Int32} {v : Int64} {T : Int32} (h : LIp K w s) (hf : frR (sL (rdW w) 3 0 0 0 0 v) w2 T 0) (hR : Rel (K + 100) (rdW w) 0 f2) : LIp (K + 100) (mW w2 f2) s := by
  obtain ⟨a1, a2, a3, a4, a5, a6, a7⟩ := h
  obtain ⟨u, hu, e⟩ : ∃ u, qb w u ∧ rdW w = sI u 2 0 1 0 0 0 := by
    unfold rdW
    split
    · exact ⟨w, qb_rf w, rfl⟩
    · exact ⟨psU w 1, qb_psU w, rfl⟩
  have hr : ∀ a b r k i, ¬ (a = 0 ∧ b = 0) → ¬ (a = 2 ∧ b = 0 ∧ r = 1) → wI (rdW w) a b r k i = wI w a b r k i := fun a b r k i z1 z2 => by
    rw [e, rd_II, if_neg (by omega)]
    exact hu.1 a b r k i z1
  have hrL : ∀ a b r k i, ¬ (a = 0 ∧ b = 0) → wL (rdW w) a b r k i = wL w a b r k i := fun a b r k i z1 => by
    rw [e]
    exact hu.2.1 a b r k i z1
  have h3 : ∀ a b r k i, a ≤ 2 → wI (mW w2 f2) a b r k i = wI (rdW w) a b r k i := fun a b r k i z => by
    rw [mW_n _ _ (by omega), hf.1 a b r k i (by omega)]
    rfl
  have h3L : ∀ a b r k i, a ≤ 2 → wL (mW w2 f2) a b r k i = wL (rdW w) a b r k i := fun a b r k i z => by
    rw [mW_L, show wL w2 = wL (sL (rdW w) 3 0 0 0 0 v) from congrArg Prod.fst hf.2.1, rd_LL, if_neg (by omega)]
  have h4 : ∀ r k i, ¬ (r = 1 ∨ r = 4 ∨ r = 5 ∨ r = 6 ∨ (r = 0 ∧ (k = 0 ∨ k = 5))) → wI (mW w2 f2) 4 0 r k i = wI w 4 0 r k i := fun r k i z => by
    rw [mW_n _ _ (by omega), hf.1 4 0 r k i (by omega), rd_IL]
    exact hr 4 0 r k i (by omega) (by omega)
  have e0 : wI (mW w2 f2) 2 0 1 0 0 = 0 := by
    rw [h3 _ _ _ _ _ (by omega), e, rd_II, if_pos (by simp)]
  have en : tn (mW w2 f2) = 0 := by
    show nz (wI (mW w2 f2) 2 0 1 0 0) = 0
    rw [e0]
    rfl
  refine ⟨?_, by rw [e0]; exact ct_nI (x := 0) (by omega) (by decide), ⟨by rw [e0, mW_n _ _ (by omega)]; exact hf.2.2.2, fun i hi => by rw [en] at hi; omega⟩, a4, ?_, by rw [h4 _ _ _ (by omega)]; exact a6, fun i hi => ?_⟩
  · rw [show mS (mW w2 f2) = f2 from funext (fun k => mW_r _ _ _)]
    exact Rel_eq (fun r k i => h3 _ _ _ _ _ (by omega)) (fun r k i => h3L _ _ _ _ _ (by omega)) hR
  · rw [h3 _ _ _ _ _ (by omega), hr _ _ _ _ _ (by omega) (by omega)]
    exact a5
  · have e9 : (fun k => wI (mW w2 f2) 4 0 2 0 (3300 * i + k)) = (fun k => wI w 4 0 2 0 (3300 * i + k)) := funext (fun k => h4 _ _ _ (by omega))
    rw [e9]
    exact Rel_eq (fun r k j => (h3 _ _ _ _ _ (by omega)).trans (hr _ _ _ _ _ (by omega) (by omega))) (fun r k j => (h3L _ _ _ _ _ (by omega)).trans (hrL _ _ _ _ _ (by omega))) (Rel_K (by omega) (a7 i hi))
/-- read threw -/
theorem LIp_r1 {K s : Nat} {w w2 : wdT} {T : Int32} (h : LIp K w s) (hf : frR w w2 T (wI w 4 0 0 5 0)) : LIp K (mW w2 (mS w)) s := by
  refine LIp_st h (Nat.le_refl K) (qb_rf w) h.1 (fun a b r k i z => ?_) (fun a b r k i z => ?_) (fun r k i z1 => ?_) (fun k => mW_r _ _ _)
  · rw [mW_n _ _ (by omega), hf.1 a b r k i (by omega)]
  · rw [mW_L, show wL w2 = wL w from congrArg Prod.fst hf.2.1]
  · rw [mW_n _ _ (by omega)]
    by_cases q : r = 0 ∧ k = 5
    · obtain ⟨rfl, rfl⟩ := q
      have : i = 0 := by omega
      subst this
      exact hf.2.2.2
    · exact hf.1 4 0 r k i (by omega)
/-- save went through -/
theorem LIp_s {K s a : Nat} {w : wdT} {v : Int64} (h : LIp K w s) (hs : s < 4) : LIp K (mW (svM (sI (sL (svW w s a) 3 0 0 0 0 v) 4 0 0 0 0 0) (mS w) s) (mS w)) (s + 1) ∧ mW (sL (svW w s a) 3 0 0 0 0 v) (mS w) = sL (svW w s a) 3 0 0 0 0 v ∧ wI (sL (svW w s a) 3 0 0 0 0 v) 4 0 0 3 0 = nI s := by
  obtain ⟨a1, a2, a3, a4, a5, a6, a7⟩ := h
  have hI : ∀ a' b r k i, ¬ (a' = 0 ∧ b = s + 1) → ¬ (a' = 1) → wI (svW w s a) a' b r k i = wI w a' b r k i := fun a' b r k i z1 z2 => by
    unfold svW
    rw [rd_II, if_neg (by omega), rd_IP, cpC_In _ (by omega) (by omega), zW_In (by omega)]
  have hL : ∀ a' b r k i, ¬ (a' = 0 ∧ b = s + 1) → wL (svW w s a) a' b r k i = wL w a' b r k i := fun a' b r k i z1 => by
    unfold svW
    rw [rd_LI, rd_LP, cpC_Ln _ (by omega) (by omega), zW_Ln (by omega)]
  have hN : ∀ r k i, wI (svW w s a) 0 (s + 1) r k i = wI (cpC (zW w 0 (s + 1)) (s + 1) 0) 0 (s + 1) r k i := fun r k i => by
    unfold svW
    rw [rd_II, if_neg (by omega), rd_IP]
  have hNL : ∀ r k i, wL (svW w s a) 0 (s + 1) r k i = wL (cpC (zW w 0 (s + 1)) (s + 1) 0) 0 (s + 1) r k i := fun r k i => by
    unfold svW
    rw [rd_LI, rd_LP]
  have m1 : mS w = mS (sL (svW w s a) 3 0 0 0 0 v) := funext (fun k => (hI 4 0 1 0 k (by omega) (by omega)).symm)
  have h3 : ∀ a' b r k i, a' ≤ 2 → wI (mW (svM (sI (sL (svW w s a) 3 0 0 0 0 v) 4 0 0 0 0 0) (mS w) s) (mS w)) a' b r k i = wI (svW w s a) a' b r k i := fun a' b r k i z => by
    rw [mW_n _ _ (by omega)]
    unfold svM
    rw [rd_II, if_neg (by omega), sgW_n _ _ _ _ (by omega), rd_II, if_neg (by omega), rd_IL]
  have h3L : ∀ a' b r k i, a' ≤ 2 → wL (mW (svM (sI (sL (svW w s a) 3 0 0 0 0 v) 4 0 0 0 0 0) (mS w) s) (mS w)) a' b r k i = wL (svW w s a) a' b r k i := fun a' b r k i z => by
    rw [mW_L]
    show wL (sL (svW w s a) 3 0 0 0 0 v) a' b r k i = _
    rw [rd_LL, if_neg (by omega)]
  have h4 : ∀ r k i, ¬ (r = 1 ∨ (r = 0 ∧ (k = 0 ∨ k = 3)) ∨ (r = 2 ∧ 3300 * s ≤ i ∧ i < 3300 * s + 3300)) → wI (mW (svM (sI (sL (svW w s a) 3 0 0 0 0 v) 4 0 0 0 0 0) (mS w) s) (mS w)) 4 0 r k i = wI w 4 0 r k i := fun r k i z => by
    rw [mW_n _ _ (by omega)]
    unfold svM
    rw [rd_II, if_neg (by omega), sgW_n _ _ _ _ (by omega), rd_II, if_neg (by omega), rd_IL, hI _ _ _ _ _ (by omega) (by omega)]
  have e2 : ∀ r k i, wI (mW (svM (sI (sL (svW w s a) 3 0 0 0 0 v) 4 0 0 0 0 0) (mS w) s) (mS w)) 2 0 r k i = wI w 2 0 r k i := fun r k i => (h3 _ _ _ _ _ (by omega)).trans (hI _ _ _ _ _ (by omega) (by omega))
  refine ⟨⟨?_, by rw [e2]; exact a2, ⟨by rw [e2, h4 _ _ _ (by omega)]; exact a3.1, fun i hi => ?_⟩, by omega, ?_, ?_, fun i hi => ?_⟩, by rw [m1]; exact mW_w _, ?_⟩
  · rw [show mS (mW (svM (sI (sL (svW w s a) 3 0 0 0 0 v) 4 0 0 0 0 0) (mS w) s) (mS w)) = mS w from funext (fun k => mW_r _ _ _)]
    exact Rel_eq (fun r k i => (h3 _ _ _ _ _ (by omega)).trans (hI _ _ _ _ _ (by omega) (by omega))) (fun r k i => (h3L _ _ _ _ _ (by omega)).trans (hL _ _ _ _ _ (by omega))) a1
  · rw [e2, h4 _ _ _ (by omega)]
    refine a3.2 i ?_
    have : tn (mW (svM (sI (sL (svW w s a) 3 0 0 0 0 v) 4 0 0 0 0 0) (mS w) s) (mS w)) = tn w := by
      show nz (wI (mW (svM (sI (sL (svW w s a) 3 0 0 0 0 v) 4 0 0 0 0 0) (mS w) s) (mS w)) 2 0 1 0 0) = _
      rw [e2]
    rw [this] at hi
    exact hi
  · rw [h3 _ _ _ _ _ (by omega)]
    unfold svW
    rw [rd_II, if_pos (by simp)]
  · rw [mW_n _ _ (by omega)]
    unfold svM
    rw [rd_II, if_pos (by simp)]
  · rcases Nat.lt_or_ge i s with q | q
    · have e9 : (fun k => wI (mW (svM (sI (sL (svW w s a) 3 0 0 0 0 v) 4 0 0 0 0 0) (mS w) s) (mS w)) 4 0 2 0 (3300 * i + k)) = (fun k => if k < 3300 then wI w 4 0 2 0 (3300 * i + k) else wI (mW (svM (sI (sL (svW w s a) 3 0 0 0 0 v) 4 0 0 0 0 0) (mS w) s) (mS w)) 4 0 2 0 (3300 * i + k)) := funext (fun k => by
        split
        · exact h4 _ _ _ (by omega)
        · rfl)
      rw [e9]
      refine Rel_lt (f := fun k => wI w 4 0 2 0 (3300 * i + k)) (fun k hk => if_pos hk) ?_
      exact Rel_eq (fun r k j => (h3 _ _ _ _ _ (by omega)).trans (hI _ _ _ _ _ (by omega) (by omega))) (fun r k j => (h3L _ _ _ _ _ (by omega)).trans (hL _ _ _ _ _ (by omega))) (a7 i q)
    · have : i = s := by omega
      subst this
      have z0 : Rel K (zW w 0 (i + 1)) 0 (mS w) := Rel_eq (fun r k j => zW_In (by omega)) (fun r k j => zW_Ln (by omega)) a1
      have z1 := Rel_cp (ι := i + 1) (ι' := 0) (by omega) z0
      refine Rel_lt (f := mS w) (fun k hk => ?_) ?_
      · rw [mW_n _ _ (by omega)]
        unfold svM
        rw [rd_II, if_neg (by omega)]
        exact sgW_i _ _ _ _ _ hk
      · exact Rel_eq (fun r k j => (h3 _ _ _ _ _ (by omega)).trans (hN r k j)) (fun r k j => (h3L _ _ _ _ _ (by omega)).trans (hNL r k j)) z1
  · rw [rd_IL, hI _ _ _ _ _ (by omega) (by omega)]
    exact a6
/-- back went through -/
theorem LIp_b {K s i : Nat} {w : wdT} (h : LIp K w s) (hi : i < s) : LIp K (mW (sI (cpC w 0 (i + 1)) 4 0 0 0 0 0) (svF (sI (cpC w 0 (i + 1)) 4 0 0 0 0 0) (mS w) i 3300)) s := by
  have hq := qb_cp w (i := i + 1) (by omega)
  refine LIp_0 h (Nat.le_refl K) hq ?_
  have z1 := Rel_cp (ι := 0) (ι' := i + 1) (by omega) (h.2.2.2.2.2.2 i hi)
  refine Rel_lt (f := fun k => wI w 4 0 2 0 (3300 * i + k)) (fun k hk => ?_) z1
  unfold svF
  rw [if_pos hk, rd_II, if_neg (by omega)]
  exact hq.1 _ _ _ _ _ (by omega)

/-- between two calls of the law: the blocks, what they stand for, s remembered circuits -/
def LI (K : Nat) (B : bsT) (N : nwT) (w : wdT) (s : Nat) : Prop := (N.1 0 0 = true ∧ N.1 1 0 = true ∧ N.1 2 0 = true ∧ N.1 3 0 = true ∧ N.1 4 0 = true) ∧ LIp K w s ∧ svP B w s ∧ (∀ i, i < s → N.1 0 (i + 1) = true) ∧ (∀ i, s ≤ i → N.1 0 (i + 1) = false) ∧ (∀ κ' ι', N.1 κ' ι' = true → 0 < bln κ') ∧ (∀ q, N.2.1 q = none)
theorem LI_nx {K K' s : Nat} {B : bsT} {N N' : nwT} {w w2 : wdT} (h : LI K B N w s) (h1 : N'.1 = N.1) (h2 : N'.2.1 = N.2.1) (hp : wP w2 = wP w) (hl : LIp K' w2 s) : LI K' B N' w2 s := by
  obtain ⟨a1, a2, a3, a4, a5, a6, a7⟩ := h
  refine ⟨by rw [h1]; exact a1, hl, fun i hi => by rw [hp]; exact a3 i hi, fun i hi => by rw [h1]; exact a4 i hi, fun i hi => by rw [h1]; exact a5 i hi, fun κ' ι' z => a6 κ' ι' (by rw [← h1]; exact z), fun q => by rw [h2]; exact a7 q⟩
theorem wP_1 {w c' : wdT} {v : Int64} {T : Int32} {f2 : Nat → Int32} (hq : qb w c') : wP (mW (sI (sL c' 3 0 0 0 0 v) 4 0 0 0 0 T) f2) = wP w := hq.2.2
theorem wP_0 {w c' : wdT} {T : Int32} {f2 : Nat → Int32} (hq : qb w c') : wP (mW (sI c' 4 0 0 0 0 T) f2) = wP w := hq.2.2
theorem LI_K {K K' s : Nat} {B : bsT} {N : nwT} {w : wdT} (hK : K ≤ K') (h : LI K B N w s) : LI K' B N w s := by
  obtain ⟨a1, ⟨b1, b2, b3, b4, b5, b6, b7⟩, a3⟩ := h
  exact ⟨a1, ⟨Rel_K hK b1, b2, b3, b4, b5, b6, fun i hi => Rel_K hK (b7 i hi)⟩, a3⟩
theorem wP_tp (w : wdT) (u : Int32) : wP (mW (tpM (sI (tpW w u) 4 0 0 0 0 0) u) (mS w)) = wP w := by
  have e1 : wP (tpW w u) = wP w := by
    unfold tpW
    split <;> rfl
  have e2 : wP (tpM (sI (tpW w u) 4 0 0 0 0 0) u) = wP (tpW w u) := by
    unfold tpM
    split <;> rfl
  exact e2.trans e1
theorem wP_rd (w : wdT) : wP (rdW w) = wP w := by
  unfold rdW
  split
  · rfl
  · exact (qb_psU w).2.2
/-- save: one block more -/
theorem LI_sv {K s : Nat} {B : bsT} {N : nwT} {w w2 : wdT} (h : LI K B N w s) (hs : s < 4) (hp : wP w2 = wP (svW w s N.2.2)) (hl : LIp K w2 (s + 1)) : LI K (upB B 0 (s + 1) N.2.2) (upN N.1 0 (s + 1), N.2.1, N.2.2 + 89) w2 (s + 1) := by
  obtain ⟨⟨a0, a1, a2, a3', a4'⟩, _, a3, a4, a5, a6, a7⟩ := h
  refine ⟨⟨(upN_n (show ¬ (0 = 0 ∧ 0 = s + 1) by omega)).trans a0, (upN_n (show ¬ (1 = 0 ∧ 0 = s + 1) by omega)).trans a1, (upN_n (show ¬ (2 = 0 ∧ 0 = s + 1) by omega)).trans a2, (upN_n (show ¬ (3 = 0 ∧ 0 = s + 1) by omega)).trans a3', (upN_n (show ¬ (4 = 0 ∧ 0 = s + 1) by omega)).trans a4'⟩, hl, fun i hi => ?_, fun i hi => ?_, fun i hi => (upN_n (by omega)).trans (a5 i (by omega)), fun κ' ι' z => ?_, a7⟩
  · rw [hp]
    unfold svW
    show wP (sP (cpC (zW w 0 (s + 1)) (s + 1) 0) 2 0 0 0 s (some N.2.2)) 2 0 0 0 i = _
    rw [rd_PP]
    by_cases q : i = s
    · subst q
      rw [if_pos (by simp), ad_up0]
    · rw [if_neg (by omega), ad_up (by omega), cpC_P, zW_Pn (by omega)]
      exact a3 i (by omega)
  · by_cases q : i = s
    · subst q
      exact upN_s _ _ _
    · exact (upN_n (by omega)).trans (a4 i (by omega))
  · rcases upN_t z with q | q
    · rw [q.1]
      decide
    · exact a6 κ' ι' q
section SCR
variable {F : gT} {pc : Nat} {lv : lvT} {st : List Value} {k n : Nat} {cc : ByteArray} {own : String} {nL : Nat} {rm : Room} {E : gE} {B : bsT} {N : nwT} {w : wdT}
/-- the law's script -/
theorem gs_sld (hF : Fb F cc own nL rm) {b L : Nat} {xs : Nat → Int32} (hX : va_X b L xs (gs F) E.2.2) (hb : b < E.2.2.size) {x : Int32} {q : Nat} (hd : decode cc pc = .ok (.iaload, 1)) (hx : x = nI q) (hq : q < L) (hL : L < 2 ^ 31)
    (kk : Go F (pc + 1) lv (.int (xs q) :: st) (gw E B N w) k n) : Go F pc lv (.int x :: .ref b :: st) (gw E B N w) k n := by
  intro H locs ls hG hL' hl
  obtain ⟨scr, h1, h2, h3, h4, h5⟩ := hX
  subst hx
  exact W.iald (v := .int (xs q)) hF.1 hF.2.1 (by rw [hG.1.2 b hb]; exact h1) h2 h3 (by rw [h4]; exact nI_in hq hL) (by rw [nI_clamp (by omega)]; exact h5 q hq) rfl rfl hd (kk H locs ls hG hL' hl)
theorem gs_slen (hF : Fb F cc own nL rm) {b L : Nat} {xs : Nat → Int32} (hX : va_X b L xs (gs F) E.2.2) (hb : b < E.2.2.size) (hd : decode cc pc = .ok (.arraylength, 1))
    (kk : Go F (pc + 1) lv (.int (nI L) :: st) (gw E B N w) k n) : Go F pc lv (.ref b :: st) (gw E B N w) k n := by
  intro H locs ls hG hL' hl
  obtain ⟨scr, h1, h2, h3, h4, h5⟩ := hX
  exact W.alen (n := nI L) hF.1 hF.2.1 (by rw [hG.1.2 b hb]; exact h1) h2 (by rw [h4] <;> rfl) rfl rfl hd (kk H locs ls hG hL' hl)
theorem go_wd {G : Heap → Prop} {k' n' : Nat} (hk : k ≤ k') (hn : n ≤ n') (kk : Go F pc lv st G k' n') : Go F pc lv st G k n := fun H locs ls hG hL hl => W.widen (k := k') (n := n') hk hn (kk H locs ls hG hL hl)
end SCR
