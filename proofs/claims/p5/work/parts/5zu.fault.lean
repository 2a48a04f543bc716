set_option maxRecDepth 100000 in
set_option maxHeartbeats 4000000 in
theorem yd_X11_fault (l : Launch) (E : zEN) (σ : zSto) (hI : zInv σ) (a1_ : Int) (ha1_ : -2147483648 ≤ a1_ ∧ a1_ ≤ 2147483647) : zCt l E yX11_fault cX11_fault 2 (some .int) 0 zNC zNC 0 0 σ [.ref (E.1 + 0), .int (zI a1_)] (fun r σ' => σ = σ' ∧ -2147483648 ≤ r ∧ r ≤ 2147483647 ∧ (r = yFa (σ 0 15) (σ 0 16) a1_)) := by
  refine zCt_of2 [some (.ref (E.1 + 0)), some (.int (zI a1_))] (by decide +kernel) (Nat.le_of_ble_eq_true rfl) rfl ?_
  intro X hE_ hX hR hL hN
  subst hE_
  have hX : zok X cX11_fault RX11 0 := hX
  refine zt_iload_n (pc' := 1) hX dX11_fault_0 rfl rfl ?_
  rcases (show a1_ = 0 ∨ a1_ = 1 ∨ (¬ a1_ = 0 ∧ ¬ a1_ = 1) by omega) with c1 | c1 | c1
  · refine zt_look (tgt := 28) (off := 27) hX dX11_fault_1 ⟨by omega, by omega⟩ (by decide +kernel) (by rw [c1]; try rfl) (by decide) ?_
    refine zt_aload_n (pc' := 29) hX dX11_fault_28 rfl rfl ?_
    have b2 := zv_1_15 hI zc_0
    refine zt_get (pc' := 32) (v := .int (zI (σ 0 15))) hX dX11_fault_29 rfl zf_X11_104 (by decide) zc_0 zs_1 rfl ?_
    exact zt_iret hX hR dX11_fault_32 ⟨by omega, by omega⟩ ⟨rfl, by omega, by omega, (yFa_0 (by omega))⟩
  · refine zt_look (tgt := 33) (off := 32) hX dX11_fault_1 ⟨by omega, by omega⟩ (by decide +kernel) (by rw [c1]; try rfl) (by decide) ?_
    refine zt_aload_n (pc' := 34) hX dX11_fault_33 rfl rfl ?_
    have b3 := zv_1_16 hI zc_0
    refine zt_get (pc' := 37) (v := .int (zI (σ 0 16))) hX dX11_fault_34 rfl zf_X11_107 (by decide) zc_0 zs_1 rfl ?_
    exact zt_iret hX hR dX11_fault_37 ⟨by omega, by omega⟩ ⟨rfl, by omega, by omega, (yFa_1 (by omega))⟩
  · refine zt_look (tgt := 38) (off := 37) hX dX11_fault_1 ⟨by omega, by omega⟩ (by decide +kernel) (by simp [Op.lookupswitch.offset]; rw [if_neg (by omega)]; rw [if_neg (by omega)]) (by decide) ?_
    refine zt_iconst (pc' := 39) hX dX11_fault_38 rfl ?_
    exact zt_iret hX hR dX11_fault_39 ⟨by omega, by omega⟩ ⟨rfl, by omega, by omega, (yFa_n (by omega) (by omega))⟩
set_option maxRecDepth 100000 in
set_option maxHeartbeats 4000000 in
theorem yd_X12_fault (l : Launch) (E : zEN) (σ : zSto) (hI : zInv σ) (a1_ : Int) (ha1_ : -2147483648 ≤ a1_ ∧ a1_ ≤ 2147483647) : zCt l E yX12_fault cX12_fault 2 (some .int) 0 zNC zNC 0 0 σ [.ref (E.1 + 164), .int (zI a1_)] (fun r σ' => σ = σ' ∧ -2147483648 ≤ r ∧ r ≤ 2147483647 ∧ (r = yFa (σ 164 7) (σ 164 8) a1_)) := by
  refine zCt_of2 [some (.ref (E.1 + 164)), some (.int (zI a1_))] (by decide +kernel) (Nat.le_of_ble_eq_true rfl) rfl ?_
  intro X hE_ hX hR hL hN
  subst hE_
  have hX : zok X cX12_fault RX12 0 := hX
  refine zt_iload_n (pc' := 1) hX dX12_fault_0 rfl rfl ?_
  refine zt_ifne (pc' := 4) (tgt := 11) hX dX12_fault_1 rfl (by decide) ⟨by omega, by omega⟩ (fun c1 => ?_) (fun c1 => ?_)
  · refine zt_iload_n (pc' := 12) hX dX12_fault_11 rfl rfl ?_
    refine zt_iconst (pc' := 13) hX dX12_fault_12 rfl ?_
    refine zt_icne (pc' := 16) (tgt := 23) hX dX12_fault_13 rfl (by decide) ⟨by omega, by omega⟩ ⟨by omega, by omega⟩ (fun c2 => ?_) (fun c2 => ?_)
    · refine zt_iconst (pc' := 24) hX dX12_fault_23 rfl ?_
      exact zt_iret hX hR dX12_fault_24 ⟨by omega, by omega⟩ ⟨rfl, by omega, by omega, (yFa_n (by omega) (by omega))⟩
    · refine zt_aload_n (pc' := 17) hX dX12_fault_16 rfl rfl ?_
      have b3 := zv_46_8 hI zc_164
      refine zt_get (pc' := 20) (v := .int (zI (σ 164 8))) hX dX12_fault_17 rfl zf_X12_13 (by decide) zc_164 zs_46 rfl ?_
      refine zt_goto (tgt := 24) hX dX12_fault_20 (by decide) ?_
      exact zt_iret hX hR dX12_fault_24 ⟨by omega, by omega⟩ ⟨rfl, by omega, by omega, (yFa_1 (by omega))⟩
  · refine zt_aload_n (pc' := 5) hX dX12_fault_4 rfl rfl ?_
    have b4 := zv_46_7 hI zc_164
    refine zt_get (pc' := 8) (v := .int (zI (σ 164 7))) hX dX12_fault_5 rfl zf_X12_369 (by decide) zc_164 zs_46 rfl ?_
    refine zt_goto (tgt := 24) hX dX12_fault_8 (by decide) ?_
    exact zt_iret hX hR dX12_fault_24 ⟨by omega, by omega⟩ ⟨rfl, by omega, by omega, (yFa_0 (by omega))⟩
