theorem B_D_reach : fw_S s_D_reach [(0, 2), (1, 0), (2, 0)] 0 b_D_reach (0, []) (0, []) (0, []) := (fs_seq (fs_if t_D_reach_0 t_D_reach_1 (fs_skip rfl)) t_D_reach_2)
set_option maxHeartbeats 4000000 in
theorem wr_reach {l : Launch} (hl : l.stackTraces = false) (D : va_G) (adr : Nat → Nat) (cA : Nat → ClassId) (o sz : Nat) (a1 a2 : Int32) (σ σ1 τ : Me) (how : Nat) (x1 : Int) (ρ1 : Lo) (e1 : b_D_reach (ini [0, 1, 2] [0, a1.toInt, a2.toInt]) σ = some (how, x1, ρ1, σ1)) (ho : how = 3 ∨ how = 4) : vx_Met l yL_reach (.codeWith yL_reach cL_reach 5 (some .int) [(0, 10, 13, 13)] :: lw_tb) wr_rm (va_Pc [.ref (adr 0), .int a1, .int a2, .ref o] (wr_P D adr cA o σ τ sz)) (wr_Q D adr cA o σ σ1 τ how x1 sz) (fun _ _ _ => False) 1 6 (wr_A adr cA o σ sz) := by
  refine vx_ofWH (cc := cL_reach) (maxL := 5) (ret := some .int) (hh := [(0, 10, 13, 13)]) (by decide +kernel) rfl ?_
  intro p e s m args below meth c s₁ Bd hml hv
  obtain ⟨rfl, hv⟩ := hv
  have hts0 := atoms_spec (ws := Cond.codeWith yL_reach cL_reach 5 (some .int) [(0, 10, 13, 13)] :: lw_tb) Bd.pre
  have hts : ∀ w ∈ lw_tb, w.before ([.ref (adr 0), .int a1, .int a2, .ref o] : List Value).toArray s = true := fun w h => hts0 w (List.mem_cons_of_mem _ h)
  have hown : s.vm.findClass RL = some m.cls := findClass_of_methodNamed Bd.named
  have htab := vx_table (x := yL_reach) Bd (hts0 _ List.mem_cons_self)
  have hsep := hv.2.2.2.2.2.2.1
  have hl0 := lv_entry ([.ref (adr 0), .int a1, .int a2, .ref o] : List Value) (n := 5) (Nat.le_of_ble_eq_true rfl)
  rw [lg_entry_eq]
  generalize (lg_sl ([.ref (adr 0), .int a1, .int a2, .ref o] : List Value) ++ List.replicate (5 - (lg_sl ([.ref (adr 0), .int a1, .int a2, .ref o] : List Value)).length) Slot.unset).toArray = ls at hl0 ⊢
  have h0 : lv_has ls 5 [(0, .ref (adr 0)), (1, .int a1), (2, .int a2), (3, .ref o)] := hl0
  refine lv_aload_n Bd.exec Bd.bytes dL_reach_0 rfl (lv_at h0 3 rfl) ?_
  refine lv_iconst Bd.exec Bd.bytes dL_reach_1 (v := 0) (by decide) ?_
  refine lv_aload_n Bd.exec Bd.bytes dL_reach_2 rfl (lv_at h0 0 rfl) ?_
  refine lv_iload_n Bd.exec Bd.bytes dL_reach_3 rfl (lv_at h0 1 rfl) ?_
  refine lv_iload_n Bd.exec Bd.bytes dL_reach_4 rfl (lv_at h0 2 rfl) ?_
  refine wr_call (As := [.int a1, .int a2]) (ts := [0, 0]) (xs := [a1.toInt, a2.toInt]) (tx_C (ts := [2, 0, 0]) hl (by decide +kernel) rfl B_D_reach (by decide) (by decide) D adr cA [0, a1.toInt, a2.toInt] σ σ1 how x1 ρ1 sz rfl e1 ho) (by simp [fw_v]) rfl lv_RL_7 rfl (by decide) Bd.exec Bd.bytes hml hown hts hv rfl h0.1 dL_reach_5 (fun h3 H' l' hX hO hS => ?_) (fun h4 H' l' q ce hX hO hS hce hcv hcl => ?_)
  · refine lv_i2l Bd.exec Bd.bytes dL_reach_8 rfl ?_
    refine lo_last Bd.exec Bd.bytes hv.2.2.2.1 hO (v := w32 x1) w32_64 dL_reach_9 (fun H1 hO1 z oq => ?_)
    refine lv_goto Bd.exec Bd.bytes dL_reach_10 (tgt := 17) rfl ?_
    refine lv_iconst Bd.exec Bd.bytes dL_reach_17 (v := 0) (by decide) ?_
    have hS1 : va_S (wr_A adr cA o σ sz) s.heap H1 (l' ++ [⟨o, 0⟩]) := hS.put z oq (Or.inr rfl)
    have hX1 : va_P D vwCl (fw_w LX adr cA σ1) H1 := hX.kept (fun k q hq => oq q.1 (by rw [(fw_w_ad hq).2]; exact hsep k 0 (fw_w_ad hq).1 (by decide)))
    exact vx_ret (W.iret Bd.exec Bd.bytes Bd.returns (fun t ht hW => ⟨⟨by rw [if_neg (by omega)], by rw [ht]; exact hX1, by rw [ht, if_neg (by omega)]; exact hO1⟩, hS1.F ht⟩) hS1.2.2 dL_reach_18 Bd.notSynchronized)
  · refine vx_catch (own := RL) (name := tx_E) (E := tx_E) hown [] _ [] htab (fun z hz => nomatch hz) (by decide) (by decide) (hts _ wk_cl_RL_13) (va_Nw.use rfl (hv.2.2.2.2.2.2.2.2.2 _ List.mem_cons_self)) hce hcv hcl ?_
    refine lv_astore Bd.exec Bd.bytes dL_reach_13 h0 (by decide) rfl (fun ls' h9 => ?_)
    refine lv_iconst Bd.exec Bd.bytes dL_reach_15 (v := 1) (by decide) ?_
    exact vx_ret (W.iret Bd.exec Bd.bytes Bd.returns (fun t ht hW => ⟨⟨by rw [if_pos h4], by rw [ht]; exact hX, by rw [ht, if_pos h4]; exact hO⟩, hS.F ht⟩) hS.2.2 dL_reach_16 Bd.notSynchronized)
theorem B_D_guild : fw_S s_D_guild [(0, 2), (1, 0), (2, 0)] 0 b_D_guild (0, []) (0, []) (0, []) := (fs_seq (fs_if t_D_guild_0 t_D_guild_1 (fs_skip rfl)) (fs_seq (fs_if t_D_guild_2 t_D_guild_3 (fs_skip rfl)) t_D_guild_4))
set_option maxHeartbeats 4000000 in
theorem wr_guild {l : Launch} (hl : l.stackTraces = false) (D : va_G) (adr : Nat → Nat) (cA : Nat → ClassId) (o sz : Nat) (a1 a2 : Int32) (σ σ1 τ : Me) (how : Nat) (x1 : Int) (ρ1 : Lo) (e1 : b_D_guild (ini [0, 1, 2] [0, a1.toInt, a2.toInt]) σ = some (how, x1, ρ1, σ1)) (ho : how = 3 ∨ how = 4) : vx_Met l yL_guild (.codeWith yL_guild cL_guild 5 (some .int) [(0, 10, 13, 13)] :: lw_tb) wr_rm (va_Pc [.ref (adr 0), .int a1, .int a2, .ref o] (wr_P D adr cA o σ τ sz)) (wr_Q D adr cA o σ σ1 τ how x1 sz) (fun _ _ _ => False) 1 6 (wr_A adr cA o σ sz) := by
  refine vx_ofWH (cc := cL_guild) (maxL := 5) (ret := some .int) (hh := [(0, 10, 13, 13)]) (by decide +kernel) rfl ?_
  intro p e s m args below meth c s₁ Bd hml hv
  obtain ⟨rfl, hv⟩ := hv
  have hts0 := atoms_spec (ws := Cond.codeWith yL_guild cL_guild 5 (some .int) [(0, 10, 13, 13)] :: lw_tb) Bd.pre
  have hts : ∀ w ∈ lw_tb, w.before ([.ref (adr 0), .int a1, .int a2, .ref o] : List Value).toArray s = true := fun w h => hts0 w (List.mem_cons_of_mem _ h)
  have hown : s.vm.findClass RL = some m.cls := findClass_of_methodNamed Bd.named
  have htab := vx_table (x := yL_guild) Bd (hts0 _ List.mem_cons_self)
  have hsep := hv.2.2.2.2.2.2.1
  have hl0 := lv_entry ([.ref (adr 0), .int a1, .int a2, .ref o] : List Value) (n := 5) (Nat.le_of_ble_eq_true rfl)
  rw [lg_entry_eq]
  generalize (lg_sl ([.ref (adr 0), .int a1, .int a2, .ref o] : List Value) ++ List.replicate (5 - (lg_sl ([.ref (adr 0), .int a1, .int a2, .ref o] : List Value)).length) Slot.unset).toArray = ls at hl0 ⊢
  have h0 : lv_has ls 5 [(0, .ref (adr 0)), (1, .int a1), (2, .int a2), (3, .ref o)] := hl0
  refine lv_aload_n Bd.exec Bd.bytes dL_guild_0 rfl (lv_at h0 3 rfl) ?_
  refine lv_iconst Bd.exec Bd.bytes dL_guild_1 (v := 0) (by decide) ?_
  refine lv_aload_n Bd.exec Bd.bytes dL_guild_2 rfl (lv_at h0 0 rfl) ?_
  refine lv_iload_n Bd.exec Bd.bytes dL_guild_3 rfl (lv_at h0 1 rfl) ?_
  refine lv_iload_n Bd.exec Bd.bytes dL_guild_4 rfl (lv_at h0 2 rfl) ?_
  refine wr_call (As := [.int a1, .int a2]) (ts := [0, 0]) (xs := [a1.toInt, a2.toInt]) (tx_C (ts := [2, 0, 0]) hl (by decide +kernel) rfl B_D_guild (by decide) (by decide) D adr cA [0, a1.toInt, a2.toInt] σ σ1 how x1 ρ1 sz rfl e1 ho) (by simp [fw_v]) rfl lv_RL_15 rfl (by decide) Bd.exec Bd.bytes hml hown hts hv rfl h0.1 dL_guild_5 (fun h3 H' l' hX hO hS => ?_) (fun h4 H' l' q ce hX hO hS hce hcv hcl => ?_)
  · refine lv_i2l Bd.exec Bd.bytes dL_guild_8 rfl ?_
    refine lo_last Bd.exec Bd.bytes hv.2.2.2.1 hO (v := w32 x1) w32_64 dL_guild_9 (fun H1 hO1 z oq => ?_)
    refine lv_goto Bd.exec Bd.bytes dL_guild_10 (tgt := 17) rfl ?_
    refine lv_iconst Bd.exec Bd.bytes dL_guild_17 (v := 0) (by decide) ?_
    have hS1 : va_S (wr_A adr cA o σ sz) s.heap H1 (l' ++ [⟨o, 0⟩]) := hS.put z oq (Or.inr rfl)
    have hX1 : va_P D vwCl (fw_w LX adr cA σ1) H1 := hX.kept (fun k q hq => oq q.1 (by rw [(fw_w_ad hq).2]; exact hsep k 0 (fw_w_ad hq).1 (by decide)))
    exact vx_ret (W.iret Bd.exec Bd.bytes Bd.returns (fun t ht hW => ⟨⟨by rw [if_neg (by omega)], by rw [ht]; exact hX1, by rw [ht, if_neg (by omega)]; exact hO1⟩, hS1.F ht⟩) hS1.2.2 dL_guild_18 Bd.notSynchronized)
  · refine vx_catch (own := RL) (name := tx_E) (E := tx_E) hown [] _ [] htab (fun z hz => nomatch hz) (by decide) (by decide) (hts _ wk_cl_RL_13) (va_Nw.use rfl (hv.2.2.2.2.2.2.2.2.2 _ List.mem_cons_self)) hce hcv hcl ?_
    refine lv_astore Bd.exec Bd.bytes dL_guild_13 h0 (by decide) rfl (fun ls' h9 => ?_)
    refine lv_iconst Bd.exec Bd.bytes dL_guild_15 (v := 1) (by decide) ?_
    exact vx_ret (W.iret Bd.exec Bd.bytes Bd.returns (fun t ht hW => ⟨⟨by rw [if_pos h4], by rw [ht]; exact hX, by rw [ht, if_pos h4]; exact hO⟩, hS.F ht⟩) hS.2.2 dL_guild_16 Bd.notSynchronized)
theorem B_D_user : fw_S s_D_user [(0, 2), (1, 0), (2, 0)] 0 b_D_user (0, []) (0, []) (0, []) := (fs_seq (fs_if t_D_user_0 t_D_user_1 (fs_skip rfl)) (fs_seq (fs_if t_D_user_2 t_D_user_3 (fs_skip rfl)) (fs_seq (fs_if t_D_user_4 t_D_user_5 (fs_skip rfl)) t_D_user_6)))
set_option maxHeartbeats 4000000 in
theorem wr_user {l : Launch} (hl : l.stackTraces = false) (D : va_G) (adr : Nat → Nat) (cA : Nat → ClassId) (o sz : Nat) (a1 a2 : Int32) (σ σ1 τ : Me) (how : Nat) (x1 : Int) (ρ1 : Lo) (e1 : b_D_user (ini [0, 1, 2] [0, a1.toInt, a2.toInt]) σ = some (how, x1, ρ1, σ1)) (ho : how = 3 ∨ how = 4) : vx_Met l yL_user (.codeWith yL_user cL_user 5 (some .int) [(0, 10, 13, 13)] :: lw_tb) wr_rm (va_Pc [.ref (adr 0), .int a1, .int a2, .ref o] (wr_P D adr cA o σ τ sz)) (wr_Q D adr cA o σ σ1 τ how x1 sz) (fun _ _ _ => False) 1 6 (wr_A adr cA o σ sz) := by
  refine vx_ofWH (cc := cL_user) (maxL := 5) (ret := some .int) (hh := [(0, 10, 13, 13)]) (by decide +kernel) rfl ?_
  intro p e s m args below meth c s₁ Bd hml hv
  obtain ⟨rfl, hv⟩ := hv
  have hts0 := atoms_spec (ws := Cond.codeWith yL_user cL_user 5 (some .int) [(0, 10, 13, 13)] :: lw_tb) Bd.pre
  have hts : ∀ w ∈ lw_tb, w.before ([.ref (adr 0), .int a1, .int a2, .ref o] : List Value).toArray s = true := fun w h => hts0 w (List.mem_cons_of_mem _ h)
  have hown : s.vm.findClass RL = some m.cls := findClass_of_methodNamed Bd.named
  have htab := vx_table (x := yL_user) Bd (hts0 _ List.mem_cons_self)
  have hsep := hv.2.2.2.2.2.2.1
  have hl0 := lv_entry ([.ref (adr 0), .int a1, .int a2, .ref o] : List Value) (n := 5) (Nat.le_of_ble_eq_true rfl)
  rw [lg_entry_eq]
  generalize (lg_sl ([.ref (adr 0), .int a1, .int a2, .ref o] : List Value) ++ List.replicate (5 - (lg_sl ([.ref (adr 0), .int a1, .int a2, .ref o] : List Value)).length) Slot.unset).toArray = ls at hl0 ⊢
  have h0 : lv_has ls 5 [(0, .ref (adr 0)), (1, .int a1), (2, .int a2), (3, .ref o)] := hl0
  refine lv_aload_n Bd.exec Bd.bytes dL_user_0 rfl (lv_at h0 3 rfl) ?_
  refine lv_iconst Bd.exec Bd.bytes dL_user_1 (v := 0) (by decide) ?_
  refine lv_aload_n Bd.exec Bd.bytes dL_user_2 rfl (lv_at h0 0 rfl) ?_
  refine lv_iload_n Bd.exec Bd.bytes dL_user_3 rfl (lv_at h0 1 rfl) ?_
  refine lv_iload_n Bd.exec Bd.bytes dL_user_4 rfl (lv_at h0 2 rfl) ?_
  refine wr_call (As := [.int a1, .int a2]) (ts := [0, 0]) (xs := [a1.toInt, a2.toInt]) (tx_C (ts := [2, 0, 0]) hl (by decide +kernel) rfl B_D_user (by decide) (by decide) D adr cA [0, a1.toInt, a2.toInt] σ σ1 how x1 ρ1 sz rfl e1 ho) (by simp [fw_v]) rfl lv_RL_18 rfl (by decide) Bd.exec Bd.bytes hml hown hts hv rfl h0.1 dL_user_5 (fun h3 H' l' hX hO hS => ?_) (fun h4 H' l' q ce hX hO hS hce hcv hcl => ?_)
  · refine lv_i2l Bd.exec Bd.bytes dL_user_8 rfl ?_
    refine lo_last Bd.exec Bd.bytes hv.2.2.2.1 hO (v := w32 x1) w32_64 dL_user_9 (fun H1 hO1 z oq => ?_)
    refine lv_goto Bd.exec Bd.bytes dL_user_10 (tgt := 17) rfl ?_
    refine lv_iconst Bd.exec Bd.bytes dL_user_17 (v := 0) (by decide) ?_
    have hS1 : va_S (wr_A adr cA o σ sz) s.heap H1 (l' ++ [⟨o, 0⟩]) := hS.put z oq (Or.inr rfl)
    have hX1 : va_P D vwCl (fw_w LX adr cA σ1) H1 := hX.kept (fun k q hq => oq q.1 (by rw [(fw_w_ad hq).2]; exact hsep k 0 (fw_w_ad hq).1 (by decide)))
    exact vx_ret (W.iret Bd.exec Bd.bytes Bd.returns (fun t ht hW => ⟨⟨by rw [if_neg (by omega)], by rw [ht]; exact hX1, by rw [ht, if_neg (by omega)]; exact hO1⟩, hS1.F ht⟩) hS1.2.2 dL_user_18 Bd.notSynchronized)
  · refine vx_catch (own := RL) (name := tx_E) (E := tx_E) hown [] _ [] htab (fun z hz => nomatch hz) (by decide) (by decide) (hts _ wk_cl_RL_13) (va_Nw.use rfl (hv.2.2.2.2.2.2.2.2.2 _ List.mem_cons_self)) hce hcv hcl ?_
    refine lv_astore Bd.exec Bd.bytes dL_user_13 h0 (by decide) rfl (fun ls' h9 => ?_)
    refine lv_iconst Bd.exec Bd.bytes dL_user_15 (v := 1) (by decide) ?_
    exact vx_ret (W.iret Bd.exec Bd.bytes Bd.returns (fun t ht hW => ⟨⟨by rw [if_pos h4], by rw [ht]; exact hX, by rw [ht, if_pos h4]; exact hO⟩, hS.F ht⟩) hS.2.2 dL_user_16 Bd.notSynchronized)
theorem B_D_flow : fw_S s_D_flow [(0, 2), (1, 0)] 0 b_D_flow (0, []) (0, []) (0, []) := (fs_seq (fs_if t_D_flow_0 t_D_flow_1 (fs_skip rfl)) t_D_flow_2)
set_option maxHeartbeats 4000000 in
theorem wr_flow {l : Launch} (hl : l.stackTraces = false) (D : va_G) (adr : Nat → Nat) (cA : Nat → ClassId) (o sz : Nat) (a1 : Int32) (σ σ1 τ : Me) (how : Nat) (x1 : Int) (ρ1 : Lo) (e1 : b_D_flow (ini [0, 1] [0, a1.toInt]) σ = some (how, x1, ρ1, σ1)) (ho : how = 3 ∨ how = 4) : vx_Met l yL_flow (.codeWith yL_flow cL_flow 4 (some .int) [(0, 9, 12, 13)] :: lw_tb) wr_rm (va_Pc [.ref (adr 0), .int a1, .ref o] (wr_P D adr cA o σ τ sz)) (wr_Q D adr cA o σ σ1 τ how x1 sz) (fun _ _ _ => False) 1 6 (wr_A adr cA o σ sz) := by
  refine vx_ofWH (cc := cL_flow) (maxL := 4) (ret := some .int) (hh := [(0, 9, 12, 13)]) (by decide +kernel) rfl ?_
  intro p e s m args below meth c s₁ Bd hml hv
  obtain ⟨rfl, hv⟩ := hv
  have hts0 := atoms_spec (ws := Cond.codeWith yL_flow cL_flow 4 (some .int) [(0, 9, 12, 13)] :: lw_tb) Bd.pre
  have hts : ∀ w ∈ lw_tb, w.before ([.ref (adr 0), .int a1, .ref o] : List Value).toArray s = true := fun w h => hts0 w (List.mem_cons_of_mem _ h)
  have hown : s.vm.findClass RL = some m.cls := findClass_of_methodNamed Bd.named
  have htab := vx_table (x := yL_flow) Bd (hts0 _ List.mem_cons_self)
  have hsep := hv.2.2.2.2.2.2.1
  have hl0 := lv_entry ([.ref (adr 0), .int a1, .ref o] : List Value) (n := 4) (Nat.le_of_ble_eq_true rfl)
  rw [lg_entry_eq]
  generalize (lg_sl ([.ref (adr 0), .int a1, .ref o] : List Value) ++ List.replicate (4 - (lg_sl ([.ref (adr 0), .int a1, .ref o] : List Value)).length) Slot.unset).toArray = ls at hl0 ⊢
  have h0 : lv_has ls 4 [(0, .ref (adr 0)), (1, .int a1), (2, .ref o)] := hl0
  refine lv_aload_n Bd.exec Bd.bytes dL_flow_0 rfl (lv_at h0 2 rfl) ?_
  refine lv_iconst Bd.exec Bd.bytes dL_flow_1 (v := 0) (by decide) ?_
  refine lv_aload_n Bd.exec Bd.bytes dL_flow_2 rfl (lv_at h0 0 rfl) ?_
  refine lv_iload_n Bd.exec Bd.bytes dL_flow_3 rfl (lv_at h0 1 rfl) ?_
  refine wr_call (As := [.int a1]) (ts := [0]) (xs := [a1.toInt]) (tx_C (ts := [2, 0]) hl (by decide +kernel) rfl B_D_flow (by decide) (by decide) D adr cA [0, a1.toInt] σ σ1 how x1 ρ1 sz rfl e1 ho) (by simp [fw_v]) rfl lv_RL_21 rfl (by decide) Bd.exec Bd.bytes hml hown hts hv rfl h0.1 dL_flow_4 (fun h3 H' l' hX hO hS => ?_) (fun h4 H' l' q ce hX hO hS hce hcv hcl => ?_)
  · refine lv_i2l Bd.exec Bd.bytes dL_flow_7 rfl ?_
    refine lo_last Bd.exec Bd.bytes hv.2.2.2.1 hO (v := w32 x1) w32_64 dL_flow_8 (fun H1 hO1 z oq => ?_)
    refine lv_goto Bd.exec Bd.bytes dL_flow_9 (tgt := 15) rfl ?_
    refine lv_iconst Bd.exec Bd.bytes dL_flow_15 (v := 0) (by decide) ?_
    have hS1 : va_S (wr_A adr cA o σ sz) s.heap H1 (l' ++ [⟨o, 0⟩]) := hS.put z oq (Or.inr rfl)
    have hX1 : va_P D vwCl (fw_w LX adr cA σ1) H1 := hX.kept (fun k q hq => oq q.1 (by rw [(fw_w_ad hq).2]; exact hsep k 0 (fw_w_ad hq).1 (by decide)))
    exact vx_ret (W.iret Bd.exec Bd.bytes Bd.returns (fun t ht hW => ⟨⟨by rw [if_neg (by omega)], by rw [ht]; exact hX1, by rw [ht, if_neg (by omega)]; exact hO1⟩, hS1.F ht⟩) hS1.2.2 dL_flow_16 Bd.notSynchronized)
  · refine vx_catch (own := RL) (name := tx_E) (E := tx_E) hown [] _ [] htab (fun z hz => nomatch hz) (by decide) (by decide) (hts _ wk_cl_RL_13) (va_Nw.use rfl (hv.2.2.2.2.2.2.2.2.2 _ List.mem_cons_self)) hce hcv hcl ?_
    refine lv_astore_n Bd.exec Bd.bytes dL_flow_12 rfl h0 (by decide) rfl (fun ls' h9 => ?_)
    refine lv_iconst Bd.exec Bd.bytes dL_flow_13 (v := 1) (by decide) ?_
    exact vx_ret (W.iret Bd.exec Bd.bytes Bd.returns (fun t ht hW => ⟨⟨by rw [if_pos h4], by rw [ht]; exact hX, by rw [ht, if_pos h4]; exact hO⟩, hS.F ht⟩) hS.2.2 dL_flow_14 Bd.notSynchronized)
theorem B_D_bell : fw_S s_D_bell [(0, 2), (1, 0), (2, 0)] 0 b_D_bell (0, []) (0, []) (0, []) := (fs_seq (fs_if t_D_bell_0 t_D_bell_1 (fs_skip rfl)) (fs_seq (fs_if t_D_bell_2 t_D_bell_3 (fs_skip rfl)) t_D_bell_4))
set_option maxHeartbeats 4000000 in
theorem wr_bell {l : Launch} (hl : l.stackTraces = false) (D : va_G) (adr : Nat → Nat) (cA : Nat → ClassId) (o sz : Nat) (a1 a2 : Int32) (σ σ1 τ : Me) (how : Nat) (x1 : Int) (ρ1 : Lo) (e1 : b_D_bell (ini [0, 1, 2] [0, a1.toInt, a2.toInt]) σ = some (how, x1, ρ1, σ1)) (ho : how = 3 ∨ how = 4) : vx_Met l yL_bell (.codeWith yL_bell cL_bell 5 (some .int) [(0, 10, 13, 13)] :: lw_tb) wr_rm (va_Pc [.ref (adr 0), .int a1, .int a2, .ref o] (wr_P D adr cA o σ τ sz)) (wr_Q D adr cA o σ σ1 τ how x1 sz) (fun _ _ _ => False) 1 6 (wr_A adr cA o σ sz) := by
  refine vx_ofWH (cc := cL_bell) (maxL := 5) (ret := some .int) (hh := [(0, 10, 13, 13)]) (by decide +kernel) rfl ?_
  intro p e s m args below meth c s₁ Bd hml hv
  obtain ⟨rfl, hv⟩ := hv
  have hts0 := atoms_spec (ws := Cond.codeWith yL_bell cL_bell 5 (some .int) [(0, 10, 13, 13)] :: lw_tb) Bd.pre
  have hts : ∀ w ∈ lw_tb, w.before ([.ref (adr 0), .int a1, .int a2, .ref o] : List Value).toArray s = true := fun w h => hts0 w (List.mem_cons_of_mem _ h)
  have hown : s.vm.findClass RL = some m.cls := findClass_of_methodNamed Bd.named
  have htab := vx_table (x := yL_bell) Bd (hts0 _ List.mem_cons_self)
  have hsep := hv.2.2.2.2.2.2.1
  have hl0 := lv_entry ([.ref (adr 0), .int a1, .int a2, .ref o] : List Value) (n := 5) (Nat.le_of_ble_eq_true rfl)
  rw [lg_entry_eq]
  generalize (lg_sl ([.ref (adr 0), .int a1, .int a2, .ref o] : List Value) ++ List.replicate (5 - (lg_sl ([.ref (adr 0), .int a1, .int a2, .ref o] : List Value)).length) Slot.unset).toArray = ls at hl0 ⊢
  have h0 : lv_has ls 5 [(0, .ref (adr 0)), (1, .int a1), (2, .int a2), (3, .ref o)] := hl0
  refine lv_aload_n Bd.exec Bd.bytes dL_bell_0 rfl (lv_at h0 3 rfl) ?_
  refine lv_iconst Bd.exec Bd.bytes dL_bell_1 (v := 0) (by decide) ?_
  refine lv_aload_n Bd.exec Bd.bytes dL_bell_2 rfl (lv_at h0 0 rfl) ?_
  refine lv_iload_n Bd.exec Bd.bytes dL_bell_3 rfl (lv_at h0 1 rfl) ?_
  refine lv_iload_n Bd.exec Bd.bytes dL_bell_4 rfl (lv_at h0 2 rfl) ?_
  refine wr_call (As := [.int a1, .int a2]) (ts := [0, 0]) (xs := [a1.toInt, a2.toInt]) (tx_C (ts := [2, 0, 0]) hl (by decide +kernel) rfl B_D_bell (by decide) (by decide) D adr cA [0, a1.toInt, a2.toInt] σ σ1 how x1 ρ1 sz rfl e1 ho) (by simp [fw_v]) rfl lv_RL_25 rfl (by decide) Bd.exec Bd.bytes hml hown hts hv rfl h0.1 dL_bell_5 (fun h3 H' l' hX hO hS => ?_) (fun h4 H' l' q ce hX hO hS hce hcv hcl => ?_)
  · refine lv_i2l Bd.exec Bd.bytes dL_bell_8 rfl ?_
    refine lo_last Bd.exec Bd.bytes hv.2.2.2.1 hO (v := w32 x1) w32_64 dL_bell_9 (fun H1 hO1 z oq => ?_)
    refine lv_goto Bd.exec Bd.bytes dL_bell_10 (tgt := 17) rfl ?_
    refine lv_iconst Bd.exec Bd.bytes dL_bell_17 (v := 0) (by decide) ?_
    have hS1 : va_S (wr_A adr cA o σ sz) s.heap H1 (l' ++ [⟨o, 0⟩]) := hS.put z oq (Or.inr rfl)
    have hX1 : va_P D vwCl (fw_w LX adr cA σ1) H1 := hX.kept (fun k q hq => oq q.1 (by rw [(fw_w_ad hq).2]; exact hsep k 0 (fw_w_ad hq).1 (by decide)))
    exact vx_ret (W.iret Bd.exec Bd.bytes Bd.returns (fun t ht hW => ⟨⟨by rw [if_neg (by omega)], by rw [ht]; exact hX1, by rw [ht, if_neg (by omega)]; exact hO1⟩, hS1.F ht⟩) hS1.2.2 dL_bell_18 Bd.notSynchronized)
  · refine vx_catch (own := RL) (name := tx_E) (E := tx_E) hown [] _ [] htab (fun z hz => nomatch hz) (by decide) (by decide) (hts _ wk_cl_RL_13) (va_Nw.use rfl (hv.2.2.2.2.2.2.2.2.2 _ List.mem_cons_self)) hce hcv hcl ?_
    refine lv_astore Bd.exec Bd.bytes dL_bell_13 h0 (by decide) rfl (fun ls' h9 => ?_)
    refine lv_iconst Bd.exec Bd.bytes dL_bell_15 (v := 1) (by decide) ?_
    exact vx_ret (W.iret Bd.exec Bd.bytes Bd.returns (fun t ht hW => ⟨⟨by rw [if_pos h4], by rw [ht]; exact hX, by rw [ht, if_pos h4]; exact hO⟩, hS.F ht⟩) hS.2.2 dL_bell_16 Bd.notSynchronized)
