/-! raids: the model's part -/
def jp_mV (M : jw_M) : Int → Int := fun w => M 133 (5 + w)
def jp_lF (M N : jw_M) : Prop := (∀ k : Nat, k ≠ 133 → N k = M k) ∧ (∀ j : Int, j < 42 ∨ 79 ≤ j → N 133 j = M 133 j)
theorem jp_lF_u {M N : jw_M} (h : jp_lF M N) {j : Int} (hj : 42 ≤ j ∧ j < 79) (v : Int) : jp_lF M (jw_up N 133 j v) :=
  ⟨fun k hk => by rw [jw_up_ne _ hk]; exact h.1 k hk, fun i hi => by rw [jw_up_eq, jw_u1_n _ (by omega)]; exact h.2 i hi⟩
theorem jp_lF_X {M N : jw_M} (h : jp_Xm M) (hN : jp_lF M N) : jp_Xm N := jp_Xm_fr h hN.1 (fun j _ b => hN.2 j (by omega))
theorem jp_lF_w {M N : jw_M} (h : jp_Xm M) (hN : jp_lF M N) (s o o' : Int) (hs : 0 ≤ s ∧ s < M 131 3) (ho : ∀ w : Int, 0 ≤ w → w < M 131 4 → (w ≠ o ↔ w ≠ o')) : fX12_warnedOf s o N = some (jp_wa (M 131) (M 137) (jp_mV M) (M 133 s) o' (M 131 4).toNat) := by
  obtain ⟨⟨r0, r2, r3, r4, r5⟩, -⟩ := jp_A_r h.1
  have e131 := hN.1 131 (by decide)
  have hw := gX12_warnedOf (jp_lF_X h hN) s o (by rw [e131]; exact hs)
  rw [e131, hN.1 137 (by decide), hN.2 s (by omega)] at hw
  rw [hw]
  refine congrArg some (jp_wa_e (T := M 131) r0.2 (fun c _ _ => rfl) (fun w a b => ?_) ho _ (by omega))
  refine ⟨hN.2 _ (by omega), h.2.2.2.2 w a b⟩
theorem jp_lF_c {M N : jw_M} (h : jp_Xm M) (hN : jp_lF M N) (s w : Int) (hs : 0 ≤ s ∧ s < M 131 3) (hw : 0 ≤ w ∧ w ≤ 1000000) : fX12_isCaught s w N = some (if jp_oc (M 137 (M 133 s)) w (M 131 (63 + 3 * M 131 (90 + s))) = 2 then 1 else 0) := by
  obtain ⟨⟨r0, r2, r3, r4, r5⟩, -⟩ := jp_A_r h.1
  have e131 := hN.1 131 (by decide)
  have hc := gX12_isCaught (jp_lF_X h hN) s w (by rw [e131]; exact hs) hw
  rw [e131, hN.1 137 (by decide), hN.2 s (by omega)] at hc
  exact hc
theorem jp_lF_l {M N : jw_M} (h : jp_Xm M) (hN : jp_lF M N) (s w : Int) (hs : 0 ≤ s ∧ s < M 131 3) (hw : 0 ≤ w ∧ w ≤ 1000000) : fX12_lostBy s w N = some (if jp_oc (M 137 (M 133 s)) w (M 131 (63 + 3 * M 131 (90 + s))) = 2 then jp_ls (M 131) s else 0) := by
  obtain ⟨⟨r0, r2, r3, r4, r5⟩, -⟩ := jp_A_r h.1
  have e131 := hN.1 131 (by decide)
  have hc := gX12_lostBy (jp_lF_X h hN) s w (by rw [e131]; exact hs) hw
  rw [e131, hN.1 137 (by decide), hN.2 s (by omega)] at hc
  exact hc
/-- what is laid -/
def jp_lI (M N : jw_M) (q i' i w : Int) : Prop :=
  jp_lF M N ∧ N 133 42 = q ∧ N 133 58 = jp_mask (fun c => decide (M 137 c < 1000000)) 7 ∧
  (∀ j : Int, 0 ≤ j → j < i' → N 133 (43 + j) = (if jp_wd (M 131) (M 137) (jp_mV M) (M 133) j < 1000000 then jp_wd (M 131) (M 137) (jp_mV M) (M 133) j else -1000000) ∧ N 133 (48 + j) = (if M 137 (M 133 j) < 1000000 then M 137 (M 133 j) else -1000000) ∧ N 133 (53 + j) = jp_o (M 131) (M 137) (jp_mV M) (M 133) j) ∧
  (∀ a s : Int, 0 ≤ a → a < M 131 4 → 0 ≤ s → s < 5 → (s < i ∨ s = i ∧ a < w) → N 133 (59 + (5 * a + s)) = jp_sp (M 131) (M 137) (jp_mV M) (M 133) a s) ∧
  (∀ k : Int, 0 ≤ k → k < 20 → (M 131 4 ≤ k / 5 ∨ M 131 3 ≤ k % 5) → N 133 (59 + k) = M 133 (59 + k))
theorem gX12_layRaid_200 {M : jw_M} (h : jp_Xm M) (r62 : Int → Int → jw_M → Option (Int × jw_M)) (q x2 s : Int) (hs : 0 ≤ s ∧ s < M 131 3) (N : jw_M) (hN : jp_lI M N q (s + 1) s 0) : ∃ N' : jw_M, jp_lI M N' q (s + 1) (s + 1) 0 ∧ fX12_layRaid_200 r62 jw_fu x2 s (jp_wd (M 131) (M 137) (jp_mV M) (M 133) s) 0 N = r62 x2 (s + 1) N' := by
  obtain ⟨hA, h1, hC, hP, hV⟩ := id h
  obtain ⟨⟨r0, r2', r3, r4, r5⟩, -⟩ := jp_A_r hA
  refine jp_up (fun k w N => fX12_layRaid_200 r62 k x2 s (jp_wd (M 131) (M 137) (jp_mV M) (M 133) s) w N) (M 131 4) (fun w N => 0 ≤ w ∧ jp_lI M N q (s + 1) s w) (fun x => ∃ N' : jw_M, jp_lI M N' q (s + 1) (s + 1) 0 ∧ x = r62 x2 (s + 1) N') ?_ ?_ jw_fu 0 N (by unfold jw_fu; omega) (by omega) ⟨by omega, hN⟩
  · intro k w N hp hw ih
    obtain ⟨h0, hN⟩ := hp
    obtain ⟨nF, n42, n58, n2, n3, n4⟩ := hN
    have e131 := nF.1 131 (by decide)
    have hpr := hP s hs.1 hs.2
    have hw1 := jp_lF_w h nF s w w hs (fun _ _ _ => Iff.rfl)
    have hr1 := jp_wa_r (C := M 137) (V := jp_mV M) (p := M 133 s) (o := w) hA.1 h1 hC hV hpr (M 131 4).toNat (by omega)
    have hr2 : 0 ≤ jp_wd (M 131) (M 137) (jp_mV M) (M 133) s ∧ jp_wd (M 131) (M 137) (jp_mV M) (M 133) s ≤ 1000000 := jp_wa_r (C := M 137) (V := jp_mV M) (p := M 133 s) (o := -1) hA.1 h1 hC hV hpr (M 131 4).toNat (by omega)
    have hl := jp_ls_r hA.1 hs
    have hsp := jp_sp_r (C := M 137) (V := jp_mV M) (P := M 133) hA.1 hs w
    have hl1 := jp_lF_l h nF s _ hs hr1
    have hl2 := jp_lF_l h nF s _ hs hr2
    show ∃ N' : jw_M, jp_lI M N' q (s + 1) (s + 1) 0 ∧ fX12_layRaid_200 r62 (k + 1) x2 s (jp_wd (M 131) (M 137) (jp_mV M) (M 133) s) w N = r62 x2 (s + 1) N'
    rw [fX12_layRaid_200, if_pos (by decide), e131, if_pos hw, hw1, jp_bs, hl1, jp_bs, hl2, jp_bs, jw_ws (x := 5 * w) (by omega), jw_ws (x := 59 + 5 * w) (by omega), jw_ws (x := 59 + 5 * w + s) (by omega), if_pos (by omega), jp_bs, jp_bs, jw_ws (x := w + 1) (by omega)]
    have hz : jw_w ((if jp_oc (M 137 (M 133 s)) (jp_wa (M 131) (M 137) (jp_mV M) (M 133 s) w (M 131 4).toNat) (M 131 (63 + 3 * M 131 (90 + s))) = 2 then jp_ls (M 131) s else 0) - (if jp_oc (M 137 (M 133 s)) (jp_wd (M 131) (M 137) (jp_mV M) (M 133) s) (M 131 (63 + 3 * M 131 (90 + s))) = 2 then jp_ls (M 131) s else 0)) = jp_sp (M 131) (M 137) (jp_mV M) (M 133) w s := by
      show jw_w (jp_sp (M 131) (M 137) (jp_mV M) (M 133) w s) = _
      exact jw_ws (by omega)
    rw [hz]
    refine ih _ ⟨by omega, jp_lF_u nF (by omega) _, ?_, ?_, fun j a b => ?_, fun a t a1 a2 t1 t2 z => ?_, fun j a b c => ?_⟩
    · rw [jw_up_eq, jw_u1_n _ (by omega)]; exact n42
    · rw [jw_up_eq, jw_u1_n _ (by omega)]; exact n58
    · rw [jw_up_eq, jw_u1_n _ (by omega), jw_u1_n _ (by omega), jw_u1_n _ (by omega)]
      exact n2 j a b
    · rw [jw_up_eq, jw_u1_a]
      by_cases e : 59 + (5 * a + t) = 59 + 5 * w + s
      · have ea : a = w := by omega
        have et : t = s := by omega
        rw [if_pos e, ea, et]
      · rw [if_neg e]
        exact n3 a t a1 a2 t1 t2 (by omega)
    · rw [jw_up_eq, jw_u1_n _ (by omega)]
      exact n4 j a b c
  · intro k N hp
    obtain ⟨h0, nF, n42, n58, n2, n3, n4⟩ := hp
    have e131 := nF.1 131 (by decide)
    refine ⟨N, ⟨nF, n42, n58, n2, fun a t a1 a2 t1 t2 z => n3 a t a1 a2 t1 t2 (by omega), n4⟩, ?_⟩
    show fX12_layRaid_200 r62 (k + 1) x2 s (jp_wd (M 131) (M 137) (jp_mV M) (M 133) s) (M 131 4) N = r62 x2 (s + 1) N
    rw [fX12_layRaid_200, if_pos (by decide), e131, if_neg (by omega), jp_bs, jw_ws (by omega)]
/-- the three writings of a seller -/
theorem gX12_layRaid_118 {M : jw_M} (h : jp_Xm M) (r62 : Int → Int → jw_M → Option (Int × jw_M)) (x2 s xs0 : Int) (hs : 0 ≤ s ∧ s < M 131 3) (N : jw_M) (nF : jp_lF M N) : fX12_layRaid_118 r62 x2 s (jp_wd (M 131) (M 137) (jp_mV M) (M 133) s) (M 137 (M 133 s)) xs0 (jw_w (43 + s)) N = fX12_layRaid_200 r62 jw_fu (jw_ior x2 (if jp_o (M 131) (M 137) (jp_mV M) (M 133) s = 2 then jw_ishl 1 s else 0)) s (jp_wd (M 131) (M 137) (jp_mV M) (M 133) s) 0 (jw_up (jw_up (jw_up N 133 (43 + s) xs0) 133 (48 + s) (if M 137 (M 133 s) < 1000000 then M 137 (M 133 s) else -1000000)) 133 (53 + s) (jp_o (M 131) (M 137) (jp_mV M) (M 133) s)) := by
  obtain ⟨hA, h1, hC, hP, hV⟩ := id h
  obtain ⟨⟨r0, r2', r3, r4, r5⟩, -⟩ := jp_A_r hA
  have hpr := hP s hs.1 hs.2
  have hr2 : 0 ≤ jp_wd (M 131) (M 137) (jp_mV M) (M 133) s ∧ jp_wd (M 131) (M 137) (jp_mV M) (M 133) s ≤ 1000000 := jp_wa_r (C := M 137) (V := jp_mV M) (p := M 133 s) (o := -1) hA.1 h1 hC hV hpr (M 131 4).toNat (by omega)
  have hod : jp_o (M 131) (M 137) (jp_mV M) (M 133) s = jp_oc (M 137 (M 133 s)) (jp_wd (M 131) (M 137) (jp_mV M) (M 133) s) (M 131 (63 + 3 * M 131 (90 + s))) := rfl
  have l118 : fX12_layRaid_118 r62 x2 s (jp_wd (M 131) (M 137) (jp_mV M) (M 133) s) (M 137 (M 133 s)) xs0 (jw_w (43 + s)) N = fX12_layRaid_141 r62 x2 s (jp_wd (M 131) (M 137) (jp_mV M) (M 133) s) (if M 137 (M 133 s) < 1000000 then M 137 (M 133 s) else -1000000) (jw_w (48 + s)) (jw_up N 133 (43 + s) xs0) := by
    unfold fX12_layRaid_118
    rw [jw_ws (x := 43 + s) (by omega), if_pos (by omega), jp_bs]
    by_cases e : M 137 (M 133 s) < 1000000
    · rw [if_pos e, if_pos e]
    · rw [if_neg e, if_neg e]
  rw [l118]
  have F1 := jp_lF_u nF (j := 43 + s) (by omega) xs0
  generalize (if M 137 (M 133 s) < 1000000 then M 137 (M 133 s) else -1000000) = at1
  have F2 := jp_lF_u F1 (j := 48 + s) (by omega) at1
  have F3 := jp_lF_u F2 (j := 53 + s) (by omega) (jp_o (M 131) (M 137) (jp_mV M) (M 133) s)
  generalize jw_up N 133 (43 + s) xs0 = N1 at F1 F2 F3 ⊢
  have hc2 := jp_lF_c h F2 s _ hs hr2
  have hc3 := jp_lF_c h F3 s _ hs hr2
  rw [← hod] at hc2 hc3
  have l141 : fX12_layRaid_141 r62 x2 s (jp_wd (M 131) (M 137) (jp_mV M) (M 133) s) at1 (jw_w (48 + s)) N1 = fX12_layRaid_176 r62 x2 s (jp_wd (M 131) (M 137) (jp_mV M) (M 133) s) (jp_o (M 131) (M 137) (jp_mV M) (M 133) s) (jw_w (53 + s)) (jw_up N1 133 (48 + s) at1) := by
    unfold fX12_layRaid_141
    rw [jw_ws (x := 48 + s) (by omega), if_pos (by omega), jp_bs, hc2, jp_bs]
    by_cases e : jp_o (M 131) (M 137) (jp_mV M) (M 133) s = 2
    · rw [if_pos e, if_neg (by decide), e]
    · rw [if_neg e, if_pos rfl]
      unfold jp_oc at hod
      rw [hod] at e ⊢
      by_cases e2 : jp_wd (M 131) (M 137) (jp_mV M) (M 133) s < 1000000
      · rw [if_pos e2]
        rw [if_neg (fun z => e (by rw [if_pos z])), if_pos e2]
      · rw [if_neg e2]
        rw [if_neg (fun z => e (by rw [if_pos z])), if_neg e2]
  rw [l141]
  unfold fX12_layRaid_176 fX12_layRaid_195
  rw [jw_ws (x := 53 + s) (by omega), if_pos (by omega), jp_bs, hc3, jp_bs]
  by_cases e : jp_o (M 131) (M 137) (jp_mV M) (M 133) s = 2
  · rw [if_pos e, if_neg (by decide), if_pos e, jp_bs, jp_bs]
  · rw [if_neg e, if_pos rfl, if_neg e, jp_bs, jp_bs]
theorem gX12_layRaid_62 {M : jw_M} (h : jp_Xm M) (q : Int) (N : jw_M) (hN : jp_lI M N q 0 0 0) : ∃ N' : jw_M, fX12_layRaid_62 jw_fu 0 0 N = some (jp_mask (fun s => decide (jp_o (M 131) (M 137) (jp_mV M) (M 133) s = 2)) (M 131 3).toNat, N') ∧ jp_lI M N' q (M 131 3) (M 131 3) 0 := by
  obtain ⟨hA, h1, hC, hP, hV⟩ := id h
  obtain ⟨⟨r0, r2', r3, r4, r5⟩, -⟩ := jp_A_r hA
  refine jp_up (fun k i (a : Int × jw_M) => fX12_layRaid_62 k a.1 i a.2) (M 131 3) (fun i a => 0 ≤ i ∧ a.1 = jp_mask (fun s => decide (jp_o (M 131) (M 137) (jp_mV M) (M 133) s = 2)) i.toNat ∧ jp_lI M a.2 q i i 0) (fun x => ∃ N' : jw_M, x = some (jp_mask (fun s => decide (jp_o (M 131) (M 137) (jp_mV M) (M 133) s = 2)) (M 131 3).toNat, N') ∧ jp_lI M N' q (M 131 3) (M 131 3) 0) ?_ ?_ jw_fu 0 (0, N) (by unfold jw_fu; omega) (by omega) ⟨by omega, rfl, hN⟩
  · intro k i a hp hi ih
    obtain ⟨x2, N⟩ := a
    obtain ⟨h0, hx, hN⟩ := hp
    have hN0 : jp_lI M N q i i 0 := hN
    have hx0 : x2 = jp_mask (fun s => decide (jp_o (M 131) (M 137) (jp_mV M) (M 133) s = 2)) i.toNat := hx
    clear hN hx
    obtain ⟨nF, n42, n58, n2, n3, n4⟩ := hN0
    have e131 := nF.1 131 (by decide)
    have e137 := nF.1 137 (by decide)
    have ei := nF.2 i (by omega)
    have hpr := hP i h0 hi
    have hw1 := jp_lF_w h nF i (-1000000) (-1) ⟨h0, hi⟩ (fun w a b => by omega)
    have hw2 : fX12_warnedOf i (-1000000) N = some (jp_wd (M 131) (M 137) (jp_mV M) (M 133) i) := hw1
    have es := jp_mask_s (fun s => decide (jp_o (M 131) (M 137) (jp_mV M) (M 133) s = 2)) h0
    have hr := jp_mask_r (fun s => decide (jp_o (M 131) (M 137) (jp_mV M) (M 133) s = 2)) i.toNat
    have hr7 := jp_mask_7 (fun s => decide (jp_o (M 131) (M 137) (jp_mV M) (M 133) s = 2)) (i := i) (by omega)
    show ∃ N' : jw_M, fX12_layRaid_62 (k + 1) x2 i N = _ ∧ _
    have hgo : fX12_layRaid_62 (k + 1) x2 i N = fX12_layRaid_118 (fX12_layRaid_62 k) x2 i (jp_wd (M 131) (M 137) (jp_mV M) (M 133) i) (M 137 (M 133 i)) (if jp_wd (M 131) (M 137) (jp_mV M) (M 133) i < 1000000 then jp_wd (M 131) (M 137) (jp_mV M) (M 133) i else -1000000) (jw_w (43 + i)) N := by
      rw [fX12_layRaid_62, if_pos (by decide), e131, if_pos hi, hw2, jp_bs, jp_bs, Int.zero_add, jw_ws (x := i) (by omega), if_pos (by omega), ei, if_pos (by omega), jp_bs, e137]
      by_cases e : jp_wd (M 131) (M 137) (jp_mV M) (M 133) i < 1000000
      · rw [if_pos e, if_pos e]
      · rw [if_neg e, if_neg e]
    rw [hgo, gX12_layRaid_118 h _ _ _ _ ⟨h0, hi⟩ N nF]
    generalize hW : (if jp_wd (M 131) (M 137) (jp_mV M) (M 133) i < 1000000 then jp_wd (M 131) (M 137) (jp_mV M) (M 133) i else -1000000) = W
    generalize hQ : (if M 137 (M 133 i) < 1000000 then M 137 (M 133 i) else -1000000) = Q
    obtain ⟨N', j1, j2⟩ := gX12_layRaid_200 h (fX12_layRaid_62 k) q (jw_ior x2 (if jp_o (M 131) (M 137) (jp_mV M) (M 133) i = 2 then jw_ishl 1 i else 0)) i ⟨h0, hi⟩ (jw_up (jw_up (jw_up N 133 (43 + i) W) 133 (48 + i) Q) 133 (53 + i) (jp_o (M 131) (M 137) (jp_mV M) (M 133) i)) (by
      refine ⟨jp_lF_u (jp_lF_u (jp_lF_u nF (by omega) _) (by omega) _) (by omega) _, ?_, ?_, fun j a b => ?_, fun a t a1 a2 t1 t2 z => ?_, fun j a b c => ?_⟩
      · rw [jw_up_eq, jw_u1_n _ (by omega), jw_up_eq, jw_u1_n _ (by omega), jw_up_eq, jw_u1_n _ (by omega)]; exact n42
      · rw [jw_up_eq, jw_u1_n _ (by omega), jw_up_eq, jw_u1_n _ (by omega), jw_up_eq, jw_u1_n _ (by omega)]; exact n58
      · rw [jw_up_eq, jw_up_eq, jw_up_eq]
        by_cases e : j = i
        · subst e
          refine ⟨?_, ?_, ?_⟩
          · rw [jw_u1_n _ (by omega), jw_u1_n _ (by omega), jw_u1_s, hW]
          · rw [jw_u1_n _ (by omega), jw_u1_s, hQ]
          · rw [jw_u1_s]
        · have m := n2 j a (by omega)
          refine ⟨?_, ?_, ?_⟩
          · rw [jw_u1_n _ (by omega), jw_u1_n _ (by omega), jw_u1_n _ (by omega)]; exact m.1
          · rw [jw_u1_n _ (by omega), jw_u1_n _ (by omega), jw_u1_n _ (by omega)]; exact m.2.1
          · rw [jw_u1_n _ (by omega), jw_u1_n _ (by omega), jw_u1_n _ (by omega)]; exact m.2.2
      · rw [jw_up_eq, jw_u1_n _ (by omega), jw_up_eq, jw_u1_n _ (by omega), jw_up_eq, jw_u1_n _ (by omega)]
        exact n3 a t a1 a2 t1 t2 (by omega)
      · rw [jw_up_eq, jw_u1_n _ (by omega), jw_up_eq, jw_u1_n _ (by omega), jw_up_eq, jw_u1_n _ (by omega)]
        exact n4 j a b c)
    rw [j2]
    refine ih (_, N') ⟨by omega, ?_, j1⟩
    show jw_ior x2 _ = _
    rw [es, hx0]
    by_cases e : jp_o (M 131) (M 137) (jp_mV M) (M 133) i = 2
    · rw [if_pos e, if_pos (decide_eq_true e)]
      exact jp_or (by omega) hr
    · rw [if_neg e, if_neg (fun z => e (of_decide_eq_true z)), Int.add_zero]
      exact jp_or0 hr7
  · intro k a hp
    obtain ⟨x2, N⟩ := a
    obtain ⟨h0, hx, hN⟩ := hp
    have hN0 : jp_lI M N q (M 131 3) (M 131 3) 0 := hN
    have hx0 : x2 = jp_mask (fun s => decide (jp_o (M 131) (M 137) (jp_mV M) (M 133) s = 2)) (M 131 3).toNat := hx
    refine ⟨N, ?_, hN0⟩
    show fX12_layRaid_62 (k + 1) x2 (M 131 3) N = _
    rw [fX12_layRaid_62, if_pos (by decide), hN0.1.1 131 (by decide), if_neg (by omega), hx0]
theorem jw_up_up (M : jw_M) (k : Nat) (i v v' : Int) : jw_up (jw_up M k i v) k i v' = jw_up M k i v' := by
  rw [jw_up_pt (jw_up M k i v), jw_up_pt M k i v, jw_pt_eq, jw_pt_pt, jw_up_pt M k i v']
  congr 1
  funext j
  rw [jw_u1_a, jw_u1_a, jw_u1_a]
  by_cases e : j = i
  · rw [if_pos e, if_pos e]
  · rw [if_neg e, if_neg e, if_neg e]
theorem gX12_layRaid {M : jw_M} (h : jp_Xm M) (q : Int) : ∃ N' : jw_M, fX12_layRaid q M = some (jp_mask (fun s => decide (jp_o (M 131) (M 137) (jp_mV M) (M 133) s = 2)) (M 131 3).toNat, N') ∧ jp_lI M N' q (M 131 3) (M 131 3) 0 := by
  obtain ⟨⟨r0, r2', r3, r4, r5⟩, -⟩ := jp_A_r h.1
  have e0 : fX12_layRaid q M = fX12_layRaid_20 jw_fu 0 0 (jw_up (jw_up M 133 42 q) 133 58 0) := by
    unfold fX12_layRaid
    rw [jp_bs, if_pos (by decide), jp_bs, if_pos (by decide), jp_bs, jp_bs]
  rw [e0]
  refine jp_up (fun k i N => fX12_layRaid_20 k 0 i N) 7 (fun i N => 0 ≤ i ∧ N = jw_up (jw_up M 133 42 q) 133 58 (jp_mask (fun c => decide (M 137 c < 1000000)) i.toNat)) (fun x => ∃ N' : jw_M, x = some (jp_mask (fun s => decide (jp_o (M 131) (M 137) (jp_mV M) (M 133) s = 2)) (M 131 3).toNat, N') ∧ jp_lI M N' q (M 131 3) (M 131 3) 0) ?_ ?_ jw_fu 0 _ (by unfold jw_fu; omega) (by omega) ⟨by omega, rfl⟩
  · intro k i N hp hi ih
    obtain ⟨h0, rfl⟩ := hp
    have es := jp_mask_s (fun c => decide (M 137 c < 1000000)) h0
    have hr := jp_mask_r (fun c => decide (M 137 c < 1000000)) i.toNat
    have hr7 := jp_mask_7 (fun c => decide (M 137 c < 1000000)) (i := i) (by omega)
    have ih2 := ih _ ⟨by omega, rfl⟩
    rw [es] at ih2
    generalize jp_mask (fun c => decide (M 137 c < 1000000)) i.toNat = m at hr hr7 ih2 ⊢
    have e137 : jw_up (jw_up M 133 42 q) 133 58 m 137 = M 137 := by rw [jw_up_ne _ (by decide), jw_up_ne _ (by decide)]
    have e58 : jw_up (jw_up M 133 42 q) 133 58 m 133 58 = m := by rw [jw_up_eq, jw_u1_s]
    show ∃ N' : jw_M, fX12_layRaid_20 (k + 1) 0 i (jw_up (jw_up M 133 42 q) 133 58 m) = _ ∧ _
    rw [fX12_layRaid_20, if_pos hi, if_pos (by decide), if_pos (by omega), e137, e58]
    unfold fX12_layRaid_52
    by_cases e : M 137 i < 1000000
    · rw [if_pos (decide_eq_true e)] at ih2
      rw [if_pos e, if_pos (by decide), jp_bs, jp_bs, jw_ws (by omega), jp_or (by omega) hr, jw_up_up]
      exact ih2
    · rw [if_neg (fun z => e (of_decide_eq_true z)), Int.add_zero] at ih2
      rw [if_neg e, if_pos (by decide), jp_bs, jp_bs, jw_ws (by omega), jp_or0 hr7, jw_up_up]
      exact ih2
  · intro k N hp
    obtain ⟨h0, rfl⟩ := hp
    show ∃ N' : jw_M, fX12_layRaid_20 (k + 1) 0 7 _ = _ ∧ _
    rw [fX12_layRaid_20, if_neg (by decide), jp_bs]
    refine gX12_layRaid_62 h q _ ⟨jp_lF_u (jp_lF_u ⟨fun _ _ => rfl, fun _ _ => rfl⟩ (by decide) _) (by decide) _, ?_, ?_, fun j a b => by omega, fun a t a1 a2 t1 t2 z => by omega, fun j a b c => ?_⟩
    · rw [jw_up_eq, jw_u1_n _ (by decide), jw_up_eq, jw_u1_s]
    · rw [jw_up_eq, jw_u1_s]; rfl
    · rw [jw_up_eq, jw_u1_n _ (by omega), jw_up_eq, jw_u1_n _ (by omega)]
