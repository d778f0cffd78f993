section
def q_isp : Cond → Bool
  | .privateMethod .. => true
  | _ => false
set_option maxRecDepth 100000 in
theorem q_mq {l : List Cond} (hs : ∀ w ∈ l, w ∈ lw_tbl) (ha : l.all (fun w => goodWord w || (q_isn w || q_isp w)) = true) {w : Cond} (j : Nat) (h : l[j]? = some w) (hn : (q_isn w || q_isp w) = false) : w ∈ q_tb := by
  have hm := List.mem_of_getElem? h
  have h1 := List.all_eq_true.mp ha w hm
  rw [hn, Bool.or_false] at h1
  exact List.mem_filter.mpr ⟨hs w hm, h1⟩
set_option maxRecDepth 100000 in
theorem q_mqN {l : List Cond} (hs : ∀ w ∈ l, w ∈ lw_tbl) {w : Cond} (j : Nat) (h : l[j]? = some w) (hn : q_isn w = true) : w ∈ q_nt := List.mem_filter.mpr ⟨hs w (List.mem_of_getElem? h), hn⟩
set_option maxRecDepth 100000 in
theorem q_ts1 : ∀ w ∈ tables_1_1, w ∈ lw_tbl := fun w h => List.mem_append_right _ (show w ∈ tables_1 from List.mem_append_left _ h)
set_option maxRecDepth 100000 in
theorem q_ta1 : tables_1_1.all (fun w => goodWord w || (q_isn w || q_isp w)) = true := by decide +kernel
set_option maxRecDepth 100000 in
theorem q_mt_1 {w : Cond} (j : Nat) (h : tables_1_1[j]? = some w) (hn : (q_isn w || q_isp w) = false) : w ∈ q_tb := q_mq q_ts1 q_ta1 j h hn
set_option maxRecDepth 100000 in
theorem q_mn1 {w : Cond} (j : Nat) (h : tables_1_1[j]? = some w) (hn : q_isn w = true) : w ∈ q_nt := q_mqN q_ts1 j h hn
set_option maxRecDepth 100000 in
theorem q_ts2 : ∀ w ∈ tables_1_2, w ∈ lw_tbl := fun w h => List.mem_append_right _ (show w ∈ tables_1 from List.mem_append_right _ (List.mem_append_left _ h))
set_option maxRecDepth 100000 in
theorem q_ta2 : tables_1_2.all (fun w => goodWord w || (q_isn w || q_isp w)) = true := by decide +kernel
set_option maxRecDepth 100000 in
theorem q_mt_2 {w : Cond} (j : Nat) (h : tables_1_2[j]? = some w) (hn : (q_isn w || q_isp w) = false) : w ∈ q_tb := q_mq q_ts2 q_ta2 j h hn
set_option maxRecDepth 100000 in
theorem q_mn2 {w : Cond} (j : Nat) (h : tables_1_2[j]? = some w) (hn : q_isn w = true) : w ∈ q_nt := q_mqN q_ts2 j h hn
set_option maxRecDepth 100000 in
theorem q_ts3 : ∀ w ∈ tables_1_3, w ∈ lw_tbl := fun w h => List.mem_append_right _ (show w ∈ tables_1 from List.mem_append_right _ (List.mem_append_right _ (List.mem_append_left _ h)))
set_option maxRecDepth 100000 in
theorem q_ta3 : tables_1_3.all (fun w => goodWord w || (q_isn w || q_isp w)) = true := by decide +kernel
set_option maxRecDepth 100000 in
theorem q_mt_3 {w : Cond} (j : Nat) (h : tables_1_3[j]? = some w) (hn : (q_isn w || q_isp w) = false) : w ∈ q_tb := q_mq q_ts3 q_ta3 j h hn
set_option maxRecDepth 100000 in
theorem q_mn3 {w : Cond} (j : Nat) (h : tables_1_3[j]? = some w) (hn : q_isn w = true) : w ∈ q_nt := q_mqN q_ts3 j h hn
set_option maxRecDepth 100000 in
theorem q_ts4 : ∀ w ∈ tables_1_4, w ∈ lw_tbl := fun w h => List.mem_append_right _ (show w ∈ tables_1 from List.mem_append_right _ (List.mem_append_right _ (List.mem_append_right _ (List.mem_append_left _ h))))
set_option maxRecDepth 100000 in
theorem q_ta4 : tables_1_4.all (fun w => goodWord w || (q_isn w || q_isp w)) = true := by decide +kernel
set_option maxRecDepth 100000 in
theorem q_mt_4 {w : Cond} (j : Nat) (h : tables_1_4[j]? = some w) (hn : (q_isn w || q_isp w) = false) : w ∈ q_tb := q_mq q_ts4 q_ta4 j h hn
set_option maxRecDepth 100000 in
theorem q_mn4 {w : Cond} (j : Nat) (h : tables_1_4[j]? = some w) (hn : q_isn w = true) : w ∈ q_nt := q_mqN q_ts4 j h hn
set_option maxRecDepth 100000 in
theorem q_ts5 : ∀ w ∈ tables_1_5, w ∈ lw_tbl := fun w h => List.mem_append_right _ (show w ∈ tables_1 from List.mem_append_right _ (List.mem_append_right _ (List.mem_append_right _ (List.mem_append_right _ (List.mem_append_left _ h)))))
set_option maxRecDepth 100000 in
theorem q_ta5 : tables_1_5.all (fun w => goodWord w || (q_isn w || q_isp w)) = true := by decide +kernel
set_option maxRecDepth 100000 in
theorem q_mt_5 {w : Cond} (j : Nat) (h : tables_1_5[j]? = some w) (hn : (q_isn w || q_isp w) = false) : w ∈ q_tb := q_mq q_ts5 q_ta5 j h hn
set_option maxRecDepth 100000 in
theorem q_mn5 {w : Cond} (j : Nat) (h : tables_1_5[j]? = some w) (hn : q_isn w = true) : w ∈ q_nt := q_mqN q_ts5 j h hn
set_option maxRecDepth 100000 in
theorem q_ts6 : ∀ w ∈ tables_1_6, w ∈ lw_tbl := fun w h => List.mem_append_right _ (show w ∈ tables_1 from List.mem_append_right _ (List.mem_append_right _ (List.mem_append_right _ (List.mem_append_right _ (List.mem_append_right _ (List.mem_append_left _ h))))))
set_option maxRecDepth 100000 in
theorem q_ta6 : tables_1_6.all (fun w => goodWord w || (q_isn w || q_isp w)) = true := by decide +kernel
set_option maxRecDepth 100000 in
theorem q_mt_6 {w : Cond} (j : Nat) (h : tables_1_6[j]? = some w) (hn : (q_isn w || q_isp w) = false) : w ∈ q_tb := q_mq q_ts6 q_ta6 j h hn
set_option maxRecDepth 100000 in
theorem q_mn6 {w : Cond} (j : Nat) (h : tables_1_6[j]? = some w) (hn : q_isn w = true) : w ∈ q_nt := q_mqN q_ts6 j h hn
set_option maxRecDepth 100000 in
theorem q_ts7 : ∀ w ∈ tables_1_7, w ∈ lw_tbl := fun w h => List.mem_append_right _ (show w ∈ tables_1 from List.mem_append_right _ (List.mem_append_right _ (List.mem_append_right _ (List.mem_append_right _ (List.mem_append_right _ (List.mem_append_right _ (List.mem_append_left _ h)))))))
set_option maxRecDepth 100000 in
theorem q_ta7 : tables_1_7.all (fun w => goodWord w || (q_isn w || q_isp w)) = true := by decide +kernel
set_option maxRecDepth 100000 in
theorem q_mt_7 {w : Cond} (j : Nat) (h : tables_1_7[j]? = some w) (hn : (q_isn w || q_isp w) = false) : w ∈ q_tb := q_mq q_ts7 q_ta7 j h hn
set_option maxRecDepth 100000 in
theorem q_mn7 {w : Cond} (j : Nat) (h : tables_1_7[j]? = some w) (hn : q_isn w = true) : w ∈ q_nt := q_mqN q_ts7 j h hn
set_option maxRecDepth 100000 in
theorem q_ts8 : ∀ w ∈ tables_1_8, w ∈ lw_tbl := fun w h => List.mem_append_right _ (show w ∈ tables_1 from List.mem_append_right _ (List.mem_append_right _ (List.mem_append_right _ (List.mem_append_right _ (List.mem_append_right _ (List.mem_append_right _ (List.mem_append_right _ (List.mem_append_left _ h))))))))
set_option maxRecDepth 100000 in
theorem q_ta8 : tables_1_8.all (fun w => goodWord w || (q_isn w || q_isp w)) = true := by decide +kernel
set_option maxRecDepth 100000 in
theorem q_mt_8 {w : Cond} (j : Nat) (h : tables_1_8[j]? = some w) (hn : (q_isn w || q_isp w) = false) : w ∈ q_tb := q_mq q_ts8 q_ta8 j h hn
set_option maxRecDepth 100000 in
theorem q_mn8 {w : Cond} (j : Nat) (h : tables_1_8[j]? = some w) (hn : q_isn w = true) : w ∈ q_nt := q_mqN q_ts8 j h hn
set_option maxRecDepth 100000 in
theorem q_ts9 : ∀ w ∈ tables_1_9, w ∈ lw_tbl := fun w h => List.mem_append_right _ (show w ∈ tables_1 from List.mem_append_right _ (List.mem_append_right _ (List.mem_append_right _ (List.mem_append_right _ (List.mem_append_right _ (List.mem_append_right _ (List.mem_append_right _ (List.mem_append_right _ (List.mem_append_left _ h)))))))))
set_option maxRecDepth 100000 in
theorem q_ta9 : tables_1_9.all (fun w => goodWord w || (q_isn w || q_isp w)) = true := by decide +kernel
set_option maxRecDepth 100000 in
theorem q_mt_9 {w : Cond} (j : Nat) (h : tables_1_9[j]? = some w) (hn : (q_isn w || q_isp w) = false) : w ∈ q_tb := q_mq q_ts9 q_ta9 j h hn
set_option maxRecDepth 100000 in
theorem q_mn9 {w : Cond} (j : Nat) (h : tables_1_9[j]? = some w) (hn : q_isn w = true) : w ∈ q_nt := q_mqN q_ts9 j h hn
set_option maxRecDepth 100000 in
theorem q_ts10 : ∀ w ∈ tables_1_10, w ∈ lw_tbl := fun w h => List.mem_append_right _ (show w ∈ tables_1 from List.mem_append_right _ (List.mem_append_right _ (List.mem_append_right _ (List.mem_append_right _ (List.mem_append_right _ (List.mem_append_right _ (List.mem_append_right _ (List.mem_append_right _ (List.mem_append_right _ (List.mem_append_left _ h))))))))))
set_option maxRecDepth 100000 in
theorem q_ta10 : tables_1_10.all (fun w => goodWord w || (q_isn w || q_isp w)) = true := by decide +kernel
set_option maxRecDepth 100000 in
theorem q_mt_10 {w : Cond} (j : Nat) (h : tables_1_10[j]? = some w) (hn : (q_isn w || q_isp w) = false) : w ∈ q_tb := q_mq q_ts10 q_ta10 j h hn
set_option maxRecDepth 100000 in
theorem q_mn10 {w : Cond} (j : Nat) (h : tables_1_10[j]? = some w) (hn : q_isn w = true) : w ∈ q_nt := q_mqN q_ts10 j h hn
set_option maxRecDepth 100000 in
theorem q_ts11 : ∀ w ∈ tables_1_11, w ∈ lw_tbl := fun w h => List.mem_append_right _ (show w ∈ tables_1 from List.mem_append_right _ (List.mem_append_right _ (List.mem_append_right _ (List.mem_append_right _ (List.mem_append_right _ (List.mem_append_right _ (List.mem_append_right _ (List.mem_append_right _ (List.mem_append_right _ (List.mem_append_right _ (h)))))))))))
set_option maxRecDepth 100000 in
theorem q_ta11 : tables_1_11.all (fun w => goodWord w || (q_isn w || q_isp w)) = true := by decide +kernel
set_option maxRecDepth 100000 in
theorem q_mt_11 {w : Cond} (j : Nat) (h : tables_1_11[j]? = some w) (hn : (q_isn w || q_isp w) = false) : w ∈ q_tb := q_mq q_ts11 q_ta11 j h hn
set_option maxRecDepth 100000 in
theorem q_mn11 {w : Cond} (j : Nat) (h : tables_1_11[j]? = some w) (hn : q_isn w = true) : w ∈ q_nt := q_mqN q_ts11 j h hn
set_option maxRecDepth 100000 in
theorem q_ta0 : (k2_sels lw_privs).all (fun w => goodWord w || (q_isn w || q_isp w)) = true := by decide +kernel
set_option maxRecDepth 100000 in
theorem q_ms {w : Cond} (j : Nat) (h : (k2_sels lw_privs)[j]? = some w) (hn : (q_isn w || q_isp w) = false) : w ∈ q_tb := q_mq (fun w h => List.mem_append_left _ h) q_ta0 j h hn
set_option maxRecDepth 100000 in
theorem q_ncRJ6 : RJ6 ≠ "java/lang/invoke/MethodHandle" ∧ RJ6 ≠ "java/lang/invoke/VarHandle" ∧ True := by decide +kernel
set_option maxRecDepth 100000 in
theorem q_pnRJ6 : plainName RJ6 = true := by decide +kernel
set_option maxRecDepth 100000 in
theorem q_ncRJ7 : RJ7 ≠ "java/lang/invoke/MethodHandle" ∧ RJ7 ≠ "java/lang/invoke/VarHandle" ∧ True := by decide +kernel
set_option maxRecDepth 100000 in
theorem q_pnRJ7 : plainName RJ7 = true := by decide +kernel
set_option maxRecDepth 100000 in
theorem q_ncRX0 : RX0 ≠ "java/lang/invoke/MethodHandle" ∧ RX0 ≠ "java/lang/invoke/VarHandle" ∧ True := by decide +kernel
set_option maxRecDepth 100000 in
theorem q_pnRX0 : plainName RX0 = true := by decide +kernel
set_option maxRecDepth 100000 in
theorem q_ncRX1 : RX1 ≠ "java/lang/invoke/MethodHandle" ∧ RX1 ≠ "java/lang/invoke/VarHandle" ∧ True := by decide +kernel
set_option maxRecDepth 100000 in
theorem q_pnRX1 : plainName RX1 = true := by decide +kernel
set_option maxRecDepth 100000 in
theorem q_ncRX10 : RX10 ≠ "java/lang/invoke/MethodHandle" ∧ RX10 ≠ "java/lang/invoke/VarHandle" ∧ True := by decide +kernel
set_option maxRecDepth 100000 in
theorem q_pnRX10 : plainName RX10 = true := by decide +kernel
set_option maxRecDepth 100000 in
theorem q_ncRX11 : RX11 ≠ "java/lang/invoke/MethodHandle" ∧ RX11 ≠ "java/lang/invoke/VarHandle" ∧ True := by decide +kernel
set_option maxRecDepth 100000 in
theorem q_pnRX11 : plainName RX11 = true := by decide +kernel
set_option maxRecDepth 100000 in
theorem q_ncRX12 : RX12 ≠ "java/lang/invoke/MethodHandle" ∧ RX12 ≠ "java/lang/invoke/VarHandle" ∧ True := by decide +kernel
set_option maxRecDepth 100000 in
theorem q_pnRX12 : plainName RX12 = true := by decide +kernel
set_option maxRecDepth 100000 in
theorem q_ncRX2 : RX2 ≠ "java/lang/invoke/MethodHandle" ∧ RX2 ≠ "java/lang/invoke/VarHandle" ∧ True := by decide +kernel
set_option maxRecDepth 100000 in
theorem q_pnRX2 : plainName RX2 = true := by decide +kernel
set_option maxRecDepth 100000 in
theorem q_ncRX3 : RX3 ≠ "java/lang/invoke/MethodHandle" ∧ RX3 ≠ "java/lang/invoke/VarHandle" ∧ True := by decide +kernel
set_option maxRecDepth 100000 in
theorem q_pnRX3 : plainName RX3 = true := by decide +kernel
set_option maxRecDepth 100000 in
theorem q_ncRX4 : RX4 ≠ "java/lang/invoke/MethodHandle" ∧ RX4 ≠ "java/lang/invoke/VarHandle" ∧ True := by decide +kernel
set_option maxRecDepth 100000 in
theorem q_pnRX4 : plainName RX4 = true := by decide +kernel
set_option maxRecDepth 100000 in
theorem q_ncRX5 : RX5 ≠ "java/lang/invoke/MethodHandle" ∧ RX5 ≠ "java/lang/invoke/VarHandle" ∧ True := by decide +kernel
set_option maxRecDepth 100000 in
theorem q_pnRX5 : plainName RX5 = true := by decide +kernel
set_option maxRecDepth 100000 in
theorem q_ncRX6 : RX6 ≠ "java/lang/invoke/MethodHandle" ∧ RX6 ≠ "java/lang/invoke/VarHandle" ∧ True := by decide +kernel
set_option maxRecDepth 100000 in
theorem q_pnRX6 : plainName RX6 = true := by decide +kernel
set_option maxRecDepth 100000 in
theorem q_ncRX7 : RX7 ≠ "java/lang/invoke/MethodHandle" ∧ RX7 ≠ "java/lang/invoke/VarHandle" ∧ True := by decide +kernel
set_option maxRecDepth 100000 in
theorem q_pnRX7 : plainName RX7 = true := by decide +kernel
set_option maxRecDepth 100000 in
theorem q_ncRX8 : RX8 ≠ "java/lang/invoke/MethodHandle" ∧ RX8 ≠ "java/lang/invoke/VarHandle" ∧ True := by decide +kernel
set_option maxRecDepth 100000 in
theorem q_pnRX8 : plainName RX8 = true := by decide +kernel
set_option maxRecDepth 100000 in
theorem q_ncRX9 : RX9 ≠ "java/lang/invoke/MethodHandle" ∧ RX9 ≠ "java/lang/invoke/VarHandle" ∧ True := by decide +kernel
set_option maxRecDepth 100000 in
theorem q_pnRX9 : plainName RX9 = true := by decide +kernel
set_option maxRecDepth 100000 in
theorem q_inT11 : ∀ w ∈ u_ws RX11 TX11 19, w ∈ q_tb := q_subs q_in11 (by decide +kernel)
set_option maxRecDepth 100000 in
theorem q_inT8 : ∀ w ∈ u_ws RX8 TX8 14, w ∈ q_tb := q_subs q_in8 (by decide +kernel)
set_option maxRecDepth 100000 in
theorem q_inT9 : ∀ w ∈ u_ws RX9 TX9 14, w ∈ q_tb := q_subs q_in9 (by decide +kernel)
set_option maxRecDepth 100000 in
theorem q_inT10 : ∀ w ∈ u_ws RX10 TX10 18, w ∈ q_tb := q_subs q_in10 (by decide +kernel)
set_option maxRecDepth 100000 in
theorem q_inT4 : ∀ w ∈ u_ws RX4 TX4 8, w ∈ q_tb := q_subs q_in4 (by decide +kernel)
set_option maxRecDepth 100000 in
theorem q_inT6 : ∀ w ∈ u_ws RX6 TX6 18, w ∈ q_tb := q_subs q_in6 (by decide +kernel)
set_option maxRecDepth 100000 in
theorem q_inT1 : ∀ w ∈ u_ws RX1 TX1 10, w ∈ q_tb := q_subs q_in1 (by decide +kernel)
set_option maxRecDepth 100000 in
theorem q_inT0 : ∀ w ∈ u_ws RX0 TX0 5, w ∈ q_tb := q_subs q_in0 (by decide +kernel)
set_option maxRecDepth 100000 in
theorem q_inT2 : ∀ w ∈ u_ws RX2 TX2 10, w ∈ q_tb := q_subs q_in2 (by decide +kernel)
set_option maxRecDepth 100000 in
theorem q_inT5 : ∀ w ∈ u_ws RX5 TX5 8, w ∈ q_tb := q_subs q_in5 (by decide +kernel)
set_option maxRecDepth 100000 in
theorem q_inT7 : ∀ w ∈ u_ws RX7 TX7 4, w ∈ q_tb := q_subs q_in7 (by decide +kernel)
set_option maxRecDepth 100000 in
theorem q_inT3 : ∀ w ∈ u_ws RX3 TX3 8, w ∈ q_tb := q_subs q_in3 (by decide +kernel)
set_option maxRecDepth 100000 in
theorem q_inT12 : ∀ w ∈ u_ws RX12 TX12 126, w ∈ q_tb := q_subs q_in12 (by decide +kernel)
set_option maxRecDepth 100000 in
theorem mX11_isTelling : q_mt yX11_isTelling cX11_isTelling 1 (some .boolean) 1 := ⟨q_mt_3 154 rfl rfl, q_mt_1 1 rfl rfl, ⟨q_ncRX11.1, q_ncRX11.2.1, by decide +kernel⟩, by decide⟩
set_option maxRecDepth 100000 in
theorem lRX11_119 : Cond.methodLink RX11 119 yX11_isTelling ∈ q_tb := q_mt_3 152 rfl rfl
set_option maxRecDepth 100000 in
theorem sX11_isTelling : Cond.static yX11_isTelling ∈ q_tb := q_mt_3 153 rfl rfl
set_option maxRecDepth 100000 in
theorem kRX11_123 : Jvm.Cond.constant RX11 123 (-100001) ∈ q_tb := q_mt_3 158 rfl rfl
set_option maxRecDepth 100000 in
theorem mX11_isWord : q_mt yX11_isWord cX11_isWord 1 (some .boolean) 1 := ⟨q_mt_3 161 rfl rfl, q_mt_1 1 rfl rfl, ⟨q_ncRX11.1, q_ncRX11.2.1, by decide +kernel⟩, by decide⟩
set_option maxRecDepth 100000 in
theorem lRX11_124 : Cond.methodLink RX11 124 yX11_isWord ∈ q_tb := q_mt_3 159 rfl rfl
set_option maxRecDepth 100000 in
theorem sX11_isWord : Cond.static yX11_isWord ∈ q_tb := q_mt_3 160 rfl rfl
set_option maxRecDepth 100000 in
theorem mX11_within : q_mt yX11_within cX11_within 3 (some .boolean) 3 := ⟨q_mt_3 157 rfl rfl, q_mt_1 1 rfl rfl, ⟨q_ncRX11.1, q_ncRX11.2.1, by decide +kernel⟩, by decide⟩
set_option maxRecDepth 100000 in
theorem lRX11_127 : Cond.methodLink RX11 127 yX11_within ∈ q_tb := q_mt_3 155 rfl rfl
set_option maxRecDepth 100000 in
theorem sX11_within : Cond.static yX11_within ∈ q_tb := q_mt_3 156 rfl rfl
set_option maxRecDepth 100000 in
theorem kRX11_131 : Jvm.Cond.constant RX11 131 (-100002) ∈ q_tb := q_mt_3 162 rfl rfl
set_option maxRecDepth 100000 in
theorem mX11_swap : q_mt yX11_swap cX11_swap 4 (some .int) 3 := ⟨q_mt_3 165 rfl rfl, q_mt_1 1 rfl rfl, ⟨q_ncRX11.1, q_ncRX11.2.1, by decide +kernel⟩, by decide⟩
set_option maxRecDepth 100000 in
theorem gRX11_11 : q_gf RX11 11 11 0 := ⟨_, _, _, rfl, by decide, q_inT11, q_mt_3 90 rfl rfl⟩
set_option maxRecDepth 100000 in
theorem gRX11_132 : q_gf RX11 132 8 0 := ⟨_, _, _, rfl, by decide, q_inT8, q_mt_2 98 rfl rfl⟩
set_option maxRecDepth 100000 in
theorem lRX11_135 : Cond.methodLink RX11 135 yX11_swap ∈ q_tb := q_mt_3 163 rfl rfl
set_option maxRecDepth 100000 in
theorem sX11_swap : Cond.static yX11_swap ∈ q_tb := q_mt_3 164 rfl rfl
set_option maxRecDepth 100000 in
theorem mX11_listFive : q_mt yX11_listFive cX11_listFive 6 none 5 := ⟨q_mt_3 173 rfl rfl, q_mt_1 1 rfl rfl, ⟨q_ncRX11.1, q_ncRX11.2.1, by decide +kernel⟩, by decide⟩
set_option maxRecDepth 100000 in
theorem lRX11_139 : Cond.methodLink RX11 139 yX11_listFive ∈ q_tb := q_mt_3 170 rfl rfl
set_option maxRecDepth 100000 in
theorem iX11_listFive : Cond.instanceMethod yX11_listFive ∈ q_tb := q_mt_3 172 rfl rfl
set_option maxRecDepth 100000 in
theorem eX11_listFive : Cond.selects (yX11_listFive).cls yX11_listFive yX11_listFive ∈ q_tb := q_ms 0 rfl rfl
set_option maxRecDepth 100000 in
theorem mX11_countItems : q_mt yX11_countItems cX11_countItems 2 (some .int) 0 := ⟨q_mt_3 177 rfl rfl, q_mt_1 1 rfl rfl, ⟨q_ncRX11.1, q_ncRX11.2.1, by decide +kernel⟩, by decide⟩
set_option maxRecDepth 100000 in
theorem lRX11_143 : Cond.methodLink RX11 143 yX11_countItems ∈ q_tb := q_mt_3 174 rfl rfl
set_option maxRecDepth 100000 in
theorem iX11_countItems : Cond.instanceMethod yX11_countItems ∈ q_tb := q_mt_3 176 rfl rfl
set_option maxRecDepth 100000 in
theorem eX11_countItems : Cond.selects (yX11_countItems).cls yX11_countItems yX11_countItems ∈ q_tb := q_ms 1 rfl rfl
set_option maxRecDepth 100000 in
theorem mX11_areItems : q_mt yX11_areItems cX11_areItems 4 (some .boolean) 2 := ⟨q_mt_3 181 rfl rfl, q_mt_1 1 rfl rfl, ⟨q_ncRX11.1, q_ncRX11.2.1, by decide +kernel⟩, by decide⟩
set_option maxRecDepth 100000 in
theorem lRX11_147 : Cond.methodLink RX11 147 yX11_areItems ∈ q_tb := q_mt_3 178 rfl rfl
set_option maxRecDepth 100000 in
theorem iX11_areItems : Cond.instanceMethod yX11_areItems ∈ q_tb := q_mt_3 180 rfl rfl
set_option maxRecDepth 100000 in
theorem eX11_areItems : Cond.selects (yX11_areItems).cls yX11_areItems yX11_areItems ∈ q_tb := q_ms 2 rfl rfl
set_option maxRecDepth 100000 in
theorem gRX11_151 : q_gf RX11 151 8 1 := ⟨_, _, _, rfl, by decide, q_inT8, q_mt_2 101 rfl rfl⟩
set_option maxRecDepth 100000 in
theorem kRX11_155 : Jvm.Cond.constant RX11 155 (-100004) ∈ q_tb := q_mt_3 188 rfl rfl
set_option maxRecDepth 100000 in
theorem mX8_addForm : q_mt yX8_addForm cX8_addForm 6 (some .int) 3 := ⟨q_mt_3 192 rfl rfl, q_mt_1 8 rfl rfl, ⟨q_ncRX8.1, q_ncRX8.2.1, by decide +kernel⟩, by decide⟩
set_option maxRecDepth 100000 in
theorem gRX11_36 : q_gf RX11 36 11 6 := ⟨_, _, _, rfl, by decide, q_inT11, q_mt_3 96 rfl rfl⟩
set_option maxRecDepth 100000 in
theorem lRX11_156 : Cond.methodLink RX11 156 yX8_addForm ∈ q_tb := q_mt_3 189 rfl rfl
set_option maxRecDepth 100000 in
theorem iX8_addForm : Cond.instanceMethod yX8_addForm ∈ q_tb := q_mt_3 190 rfl rfl
set_option maxRecDepth 100000 in
theorem eX8_addForm : Cond.selects (yX8_addForm).cls yX8_addForm yX8_addForm ∈ q_tb := q_mt_3 191 rfl rfl
set_option maxRecDepth 100000 in
theorem pRX11_151 : q_pf RX11 151 8 1 .int := ⟨_, _, _, tyX8, rfl, by decide, q_inT8, q_mt_2 101 rfl rfl, tyX8_ok, nmX8, rfl, tyX8_ok 1 (by decide)⟩
set_option maxRecDepth 100000 in
theorem gRX11_24 : q_gf RX11 24 11 3 := ⟨_, _, _, rfl, by decide, q_inT11, q_mt_3 93 rfl rfl⟩
set_option maxRecDepth 100000 in
theorem gRX11_160 : q_gf RX11 160 9 1 := ⟨_, _, _, rfl, by decide, q_inT9, q_mt_1 40 rfl rfl⟩
set_option maxRecDepth 100000 in
theorem gRX11_163 : q_gf RX11 163 9 0 := ⟨_, _, _, rfl, by decide, q_inT9, q_mt_1 35 rfl rfl⟩
set_option maxRecDepth 100000 in
theorem pRX11_163 : q_pf RX11 163 9 0 .boolean := ⟨_, _, _, tyX9, rfl, by decide, q_inT9, q_mt_1 35 rfl rfl, tyX9_ok, nmX9, rfl, tyX9_ok 0 (by decide)⟩
set_option maxRecDepth 100000 in
theorem mX10_forget : q_mt yX10_forget cX10_forget 3 none 1 := ⟨q_mt_3 201 rfl rfl, q_mt_1 7 rfl rfl, ⟨q_ncRX10.1, q_ncRX10.2.1, by decide +kernel⟩, by decide⟩
set_option maxRecDepth 100000 in
theorem gRX11_82 : q_gf RX11 82 11 17 := ⟨_, _, _, rfl, by decide, q_inT11, q_mt_3 107 rfl rfl⟩
set_option maxRecDepth 100000 in
theorem lRX11_167 : Cond.methodLink RX11 167 yX10_forget ∈ q_tb := q_mt_3 198 rfl rfl
set_option maxRecDepth 100000 in
theorem iX10_forget : Cond.instanceMethod yX10_forget ∈ q_tb := q_mt_3 199 rfl rfl
set_option maxRecDepth 100000 in
theorem eX10_forget : Cond.selects (yX10_forget).cls yX10_forget yX10_forget ∈ q_tb := q_mt_3 200 rfl rfl
set_option maxRecDepth 100000 in
theorem mJ7_fill_53178 : q_mt yJ7_fill_53178 cJ7_fill_53178 4 none 2 := ⟨q_mt_2 96 rfl rfl, q_mt_1 9 rfl rfl, ⟨q_ncRJ7.1, q_ncRJ7.2.1, by decide +kernel⟩, by decide⟩
set_option maxRecDepth 100000 in
theorem gRX11_39 : q_gf RX11 39 11 7 := ⟨_, _, _, rfl, by decide, q_inT11, q_mt_3 97 rfl rfl⟩
set_option maxRecDepth 100000 in
theorem lRX11_88 : Cond.methodLink RX11 88 yJ7_fill_53178 ∈ q_tb := q_mt_2 196 rfl rfl
set_option maxRecDepth 100000 in
theorem sJ7_fill_53178 : Cond.static yJ7_fill_53178 ∈ q_tb := q_mt_2 95 rfl rfl
set_option maxRecDepth 100000 in
theorem mX11_isForm : q_mt yX11_isForm cX11_isForm 3 (some .boolean) 2 := ⟨q_mt_3 213 rfl rfl, q_mt_1 1 rfl rfl, ⟨q_ncRX11.1, q_ncRX11.2.1, by decide +kernel⟩, by decide⟩
set_option maxRecDepth 100000 in
theorem lRX11_171 : Cond.methodLink RX11 171 yX11_isForm ∈ q_tb := q_mt_3 210 rfl rfl
set_option maxRecDepth 100000 in
theorem iX11_isForm : Cond.instanceMethod yX11_isForm ∈ q_tb := q_mt_3 212 rfl rfl
set_option maxRecDepth 100000 in
theorem eX11_isForm : Cond.selects (yX11_isForm).cls yX11_isForm yX11_isForm ∈ q_tb := q_ms 3 rfl rfl
set_option maxRecDepth 100000 in
theorem gRX11_174 : q_gf RX11 174 8 3 := ⟨_, _, _, rfl, by decide, q_inT8, q_mt_2 111 rfl rfl⟩
set_option maxRecDepth 100000 in
theorem gRX11_177 : q_gf RX11 177 8 4 := ⟨_, _, _, rfl, by decide, q_inT8, q_mt_2 116 rfl rfl⟩
set_option maxRecDepth 100000 in
theorem gRX11_180 : q_gf RX11 180 8 2 := ⟨_, _, _, rfl, by decide, q_inT8, q_mt_2 106 rfl rfl⟩
set_option maxRecDepth 100000 in
theorem gRX11_183 : q_gf RX11 183 8 5 := ⟨_, _, _, rfl, by decide, q_inT8, q_mt_2 121 rfl rfl⟩
set_option maxRecDepth 100000 in
theorem gRX11_186 : q_gf RX11 186 8 9 := ⟨_, _, _, rfl, by decide, q_inT8, q_mt_2 134 rfl rfl⟩
set_option maxRecDepth 100000 in
theorem gRX11_189 : q_gf RX11 189 8 10 := ⟨_, _, _, rfl, by decide, q_inT8, q_mt_2 137 rfl rfl⟩
set_option maxRecDepth 100000 in
theorem gRX11_193 : q_gf RX11 193 8 11 := ⟨_, _, _, rfl, by decide, q_inT8, q_mt_2 140 rfl rfl⟩
set_option maxRecDepth 100000 in
theorem gRX11_196 : q_gf RX11 196 8 7 := ⟨_, _, _, rfl, by decide, q_inT8, q_mt_2 128 rfl rfl⟩
set_option maxRecDepth 100000 in
theorem gRX11_199 : q_gf RX11 199 8 6 := ⟨_, _, _, rfl, by decide, q_inT8, q_mt_2 125 rfl rfl⟩
set_option maxRecDepth 100000 in
theorem kRX11_202 : Jvm.Cond.constant RX11 202 (-100003) ∈ q_tb := q_mt_3 222 rfl rfl
set_option maxRecDepth 100000 in
theorem gRX11_203 : q_gf RX11 203 8 8 := ⟨_, _, _, rfl, by decide, q_inT8, q_mt_2 131 rfl rfl⟩
set_option maxRecDepth 100000 in
theorem mX8_addRule : q_mt yX8_addRule cX8_addRule 4 (some .int) 3 := ⟨q_mt_3 234 rfl rfl, q_mt_1 8 rfl rfl, ⟨q_ncRX8.1, q_ncRX8.2.1, by decide +kernel⟩, by decide⟩
set_option maxRecDepth 100000 in
theorem lRX11_206 : Cond.methodLink RX11 206 yX8_addRule ∈ q_tb := q_mt_3 231 rfl rfl
set_option maxRecDepth 100000 in
theorem iX8_addRule : Cond.instanceMethod yX8_addRule ∈ q_tb := q_mt_3 232 rfl rfl
set_option maxRecDepth 100000 in
theorem eX8_addRule : Cond.selects (yX8_addRule).cls yX8_addRule yX8_addRule ∈ q_tb := q_mt_3 233 rfl rfl
set_option maxRecDepth 100000 in
theorem mX11_countTrees : q_mt yX11_countTrees cX11_countTrees 3 (some .int) 0 := ⟨q_mt_4 10 rfl rfl, q_mt_1 1 rfl rfl, ⟨q_ncRX11.1, q_ncRX11.2.1, by decide +kernel⟩, by decide⟩
set_option maxRecDepth 100000 in
theorem lRX11_210 : Cond.methodLink RX11 210 yX11_countTrees ∈ q_tb := q_mt_4 7 rfl rfl
set_option maxRecDepth 100000 in
theorem iX11_countTrees : Cond.instanceMethod yX11_countTrees ∈ q_tb := q_mt_4 9 rfl rfl
set_option maxRecDepth 100000 in
theorem eX11_countTrees : Cond.selects (yX11_countTrees).cls yX11_countTrees yX11_countTrees ∈ q_tb := q_ms 4 rfl rfl
set_option maxRecDepth 100000 in
theorem gRX11_213 : q_gf RX11 213 10 0 := ⟨_, _, _, rfl, by decide, q_inT10, q_mt_2 30 rfl rfl⟩
set_option maxRecDepth 100000 in
theorem mX10_countTurns : q_mt yX10_countTurns cX10_countTurns 4 (some .int) 1 := ⟨q_mt_4 14 rfl rfl, q_mt_1 7 rfl rfl, ⟨q_ncRX10.1, q_ncRX10.2.1, by decide +kernel⟩, by decide⟩
set_option maxRecDepth 100000 in
theorem lRX11_216 : Cond.methodLink RX11 216 yX10_countTurns ∈ q_tb := q_mt_4 11 rfl rfl
set_option maxRecDepth 100000 in
theorem iX10_countTurns : Cond.instanceMethod yX10_countTurns ∈ q_tb := q_mt_4 12 rfl rfl
set_option maxRecDepth 100000 in
theorem eX10_countTurns : Cond.selects (yX10_countTurns).cls yX10_countTurns yX10_countTurns ∈ q_tb := q_mt_4 13 rfl rfl
set_option maxRecDepth 100000 in
theorem mX11_countMaps : q_mt yX11_countMaps cX11_countMaps 3 (some .int) 0 := ⟨q_mt_4 18 rfl rfl, q_mt_1 1 rfl rfl, ⟨q_ncRX11.1, q_ncRX11.2.1, by decide +kernel⟩, by decide⟩
set_option maxRecDepth 100000 in
theorem lRX11_220 : Cond.methodLink RX11 220 yX11_countMaps ∈ q_tb := q_mt_4 15 rfl rfl
set_option maxRecDepth 100000 in
theorem iX11_countMaps : Cond.instanceMethod yX11_countMaps ∈ q_tb := q_mt_4 17 rfl rfl
set_option maxRecDepth 100000 in
theorem eX11_countMaps : Cond.selects (yX11_countMaps).cls yX11_countMaps yX11_countMaps ∈ q_tb := q_ms 5 rfl rfl
set_option maxRecDepth 100000 in
theorem mX11_countSheets : q_mt yX11_countSheets cX11_countSheets 3 (some .int) 0 := ⟨q_mt_4 22 rfl rfl, q_mt_1 1 rfl rfl, ⟨q_ncRX11.1, q_ncRX11.2.1, by decide +kernel⟩, by decide⟩
set_option maxRecDepth 100000 in
theorem lRX11_223 : Cond.methodLink RX11 223 yX11_countSheets ∈ q_tb := q_mt_4 19 rfl rfl
set_option maxRecDepth 100000 in
theorem iX11_countSheets : Cond.instanceMethod yX11_countSheets ∈ q_tb := q_mt_4 21 rfl rfl
set_option maxRecDepth 100000 in
theorem eX11_countSheets : Cond.selects (yX11_countSheets).cls yX11_countSheets yX11_countSheets ∈ q_tb := q_ms 6 rfl rfl
set_option maxRecDepth 100000 in
theorem mX11_isText : q_mt yX11_isText cX11_isText 1 (some .boolean) 1 := ⟨q_mt_4 29 rfl rfl, q_mt_1 1 rfl rfl, ⟨q_ncRX11.1, q_ncRX11.2.1, by decide +kernel⟩, by decide⟩
set_option maxRecDepth 100000 in
theorem lRX11_226 : Cond.methodLink RX11 226 yX11_isText ∈ q_tb := q_mt_4 27 rfl rfl
set_option maxRecDepth 100000 in
theorem sX11_isText : Cond.static yX11_isText ∈ q_tb := q_mt_4 28 rfl rfl
set_option maxRecDepth 100000 in
theorem mX11_isCell : q_mt yX11_isCell cX11_isCell 1 (some .boolean) 1 := ⟨q_mt_4 32 rfl rfl, q_mt_1 1 rfl rfl, ⟨q_ncRX11.1, q_ncRX11.2.1, by decide +kernel⟩, by decide⟩
set_option maxRecDepth 100000 in
theorem lRX11_229 : Cond.methodLink RX11 229 yX11_isCell ∈ q_tb := q_mt_4 30 rfl rfl
set_option maxRecDepth 100000 in
theorem sX11_isCell : Cond.static yX11_isCell ∈ q_tb := q_mt_4 31 rfl rfl
set_option maxRecDepth 100000 in
theorem gRX11_19 : q_gf RX11 19 11 2 := ⟨_, _, _, rfl, by decide, q_inT11, q_mt_3 92 rfl rfl⟩
set_option maxRecDepth 100000 in
theorem gRX11_15 : q_gf RX11 15 11 1 := ⟨_, _, _, rfl, by decide, q_inT11, q_mt_3 91 rfl rfl⟩
set_option maxRecDepth 100000 in
theorem mX3_open : q_mt yX3_open cX3_open 5 none 4 := ⟨q_mt_4 58 rfl rfl, q_mt_1 11 rfl rfl, ⟨q_ncRX3.1, q_ncRX3.2.1, by decide +kernel⟩, by decide⟩
set_option maxRecDepth 100000 in
theorem gRX11_99 : q_gf RX11 99 11 10 := ⟨_, _, _, rfl, by decide, q_inT11, q_mt_3 100 rfl rfl⟩
set_option maxRecDepth 100000 in
theorem lRX11_232 : Cond.methodLink RX11 232 yX3_open ∈ q_tb := q_mt_4 55 rfl rfl
set_option maxRecDepth 100000 in
theorem iX3_open : Cond.instanceMethod yX3_open ∈ q_tb := q_mt_4 56 rfl rfl
set_option maxRecDepth 100000 in
theorem eX3_open : Cond.selects (yX3_open).cls yX3_open yX3_open ∈ q_tb := q_mt_4 57 rfl rfl
set_option maxRecDepth 100000 in
theorem mX3_countReadings : q_mt yX3_countReadings cX3_countReadings 4 (some .int) 0 := ⟨q_mt_4 65 rfl rfl, q_mt_1 11 rfl rfl, ⟨q_ncRX3.1, q_ncRX3.2.1, by decide +kernel⟩, by decide⟩
set_option maxRecDepth 100000 in
theorem lRX11_236 : Cond.methodLink RX11 236 yX3_countReadings ∈ q_tb := q_mt_4 62 rfl rfl
set_option maxRecDepth 100000 in
theorem iX3_countReadings : Cond.instanceMethod yX3_countReadings ∈ q_tb := q_mt_4 63 rfl rfl
set_option maxRecDepth 100000 in
theorem eX3_countReadings : Cond.selects (yX3_countReadings).cls yX3_countReadings yX3_countReadings ∈ q_tb := q_mt_4 64 rfl rfl
set_option maxRecDepth 100000 in
theorem mX11_isTreeNumber : q_mt yX11_isTreeNumber cX11_isTreeNumber 1 (some .boolean) 1 := ⟨q_mt_4 98 rfl rfl, q_mt_1 1 rfl rfl, ⟨q_ncRX11.1, q_ncRX11.2.1, by decide +kernel⟩, by decide⟩
set_option maxRecDepth 100000 in
theorem lRX11_239 : Cond.methodLink RX11 239 yX11_isTreeNumber ∈ q_tb := q_mt_4 96 rfl rfl
set_option maxRecDepth 100000 in
theorem sX11_isTreeNumber : Cond.static yX11_isTreeNumber ∈ q_tb := q_mt_4 97 rfl rfl
set_option maxRecDepth 100000 in
theorem mX3_leastPrice : q_mt yX3_leastPrice cX3_leastPrice 3 (some .int) 0 := ⟨q_mt_4 102 rfl rfl, q_mt_1 11 rfl rfl, ⟨q_ncRX3.1, q_ncRX3.2.1, by decide +kernel⟩, by decide⟩
set_option maxRecDepth 100000 in
theorem lRX11_242 : Cond.methodLink RX11 242 yX3_leastPrice ∈ q_tb := q_mt_4 99 rfl rfl
set_option maxRecDepth 100000 in
theorem iX3_leastPrice : Cond.instanceMethod yX3_leastPrice ∈ q_tb := q_mt_4 100 rfl rfl
set_option maxRecDepth 100000 in
theorem eX3_leastPrice : Cond.selects (yX3_leastPrice).cls yX3_leastPrice yX3_leastPrice ∈ q_tb := q_mt_4 101 rfl rfl
set_option maxRecDepth 100000 in
theorem mX11_growInto : q_mt yX11_growInto cX11_growInto 3 (some .int) 2 := ⟨q_mt_4 140 rfl rfl, q_mt_1 1 rfl rfl, ⟨q_ncRX11.1, q_ncRX11.2.1, by decide +kernel⟩, by decide⟩
set_option maxRecDepth 100000 in
theorem lRX11_245 : Cond.methodLink RX11 245 yX11_growInto ∈ q_tb := q_mt_4 137 rfl rfl
set_option maxRecDepth 100000 in
theorem iX11_growInto : Cond.instanceMethod yX11_growInto ∈ q_tb := q_mt_4 139 rfl rfl
set_option maxRecDepth 100000 in
theorem eX11_growInto : Cond.selects (yX11_growInto).cls yX11_growInto yX11_growInto ∈ q_tb := q_ms 17 rfl rfl
set_option maxRecDepth 100000 in
theorem mX8_idleForms : q_mt yX8_idleForms cX8_idleForms 6 (some .int) 0 := ⟨q_mt_4 196 rfl rfl, q_mt_1 8 rfl rfl, ⟨q_ncRX8.1, q_ncRX8.2.1, by decide +kernel⟩, by decide⟩
set_option maxRecDepth 100000 in
theorem lRX11_249 : Cond.methodLink RX11 249 yX8_idleForms ∈ q_tb := q_mt_4 193 rfl rfl
set_option maxRecDepth 100000 in
theorem iX8_idleForms : Cond.instanceMethod yX8_idleForms ∈ q_tb := q_mt_4 194 rfl rfl
set_option maxRecDepth 100000 in
theorem eX8_idleForms : Cond.selects (yX8_idleForms).cls yX8_idleForms yX8_idleForms ∈ q_tb := q_mt_4 195 rfl rfl
set_option maxRecDepth 100000 in
theorem mX4_gather : q_mt yX4_gather cX4_gather 5 (some .boolean) 2 := ⟨q_mt_4 221 rfl rfl, q_mt_1 3 rfl rfl, ⟨q_ncRX4.1, q_ncRX4.2.1, by decide +kernel⟩, by decide⟩
set_option maxRecDepth 100000 in
theorem gRX11_54 : q_gf RX11 54 11 11 := ⟨_, _, _, rfl, by decide, q_inT11, q_mt_3 101 rfl rfl⟩
set_option maxRecDepth 100000 in
theorem lRX11_252 : Cond.methodLink RX11 252 yX4_gather ∈ q_tb := q_mt_4 218 rfl rfl
set_option maxRecDepth 100000 in
theorem iX4_gather : Cond.instanceMethod yX4_gather ∈ q_tb := q_mt_4 219 rfl rfl
set_option maxRecDepth 100000 in
theorem eX4_gather : Cond.selects (yX4_gather).cls yX4_gather yX4_gather ∈ q_tb := q_mt_4 220 rfl rfl
set_option maxRecDepth 100000 in
theorem kRX11_256 : Jvm.Cond.constant RX11 256 (-100005) ∈ q_tb := q_mt_5 15 rfl rfl
set_option maxRecDepth 100000 in
theorem mX4_howMany : q_mt yX4_howMany cX4_howMany 3 (some .int) 2 := ⟨q_mt_5 19 rfl rfl, q_mt_1 3 rfl rfl, ⟨q_ncRX4.1, q_ncRX4.2.1, by decide +kernel⟩, by decide⟩
set_option maxRecDepth 100000 in
theorem lRX11_257 : Cond.methodLink RX11 257 yX4_howMany ∈ q_tb := q_mt_5 16 rfl rfl
set_option maxRecDepth 100000 in
theorem iX4_howMany : Cond.instanceMethod yX4_howMany ∈ q_tb := q_mt_5 17 rfl rfl
set_option maxRecDepth 100000 in
theorem eX4_howMany : Cond.selects (yX4_howMany).cls yX4_howMany yX4_howMany ∈ q_tb := q_mt_5 18 rfl rfl
set_option maxRecDepth 100000 in
theorem mX4_findTwo : q_mt yX4_findTwo cX4_findTwo 5 none 1 := ⟨q_mt_5 27 rfl rfl, q_mt_1 3 rfl rfl, ⟨q_ncRX4.1, q_ncRX4.2.1, by decide +kernel⟩, by decide⟩
set_option maxRecDepth 100000 in
theorem lRX11_260 : Cond.methodLink RX11 260 yX4_findTwo ∈ q_tb := q_mt_5 24 rfl rfl
set_option maxRecDepth 100000 in
theorem iX4_findTwo : Cond.instanceMethod yX4_findTwo ∈ q_tb := q_mt_5 25 rfl rfl
set_option maxRecDepth 100000 in
theorem eX4_findTwo : Cond.selects (yX4_findTwo).cls yX4_findTwo yX4_findTwo ∈ q_tb := q_mt_5 26 rfl rfl
set_option maxRecDepth 100000 in
theorem gRX11_263 : q_gf RX11 263 4 0 := ⟨_, _, _, rfl, by decide, q_inT4, q_mt_1 129 rfl rfl⟩
set_option maxRecDepth 100000 in
theorem mX4_twoCode : q_mt yX4_twoCode cX4_twoCode 4 (some .int) 1 := ⟨q_mt_5 31 rfl rfl, q_mt_1 3 rfl rfl, ⟨q_ncRX4.1, q_ncRX4.2.1, by decide +kernel⟩, by decide⟩
set_option maxRecDepth 100000 in
theorem lRX11_266 : Cond.methodLink RX11 266 yX4_twoCode ∈ q_tb := q_mt_5 28 rfl rfl
set_option maxRecDepth 100000 in
theorem iX4_twoCode : Cond.instanceMethod yX4_twoCode ∈ q_tb := q_mt_5 29 rfl rfl
set_option maxRecDepth 100000 in
theorem eX4_twoCode : Cond.selects (yX4_twoCode).cls yX4_twoCode yX4_twoCode ∈ q_tb := q_mt_5 30 rfl rfl
set_option maxRecDepth 100000 in
theorem kRX11_270 : Jvm.Cond.constant RX11 270 (16777216) ∈ q_tb := q_mt_5 38 rfl rfl
set_option maxRecDepth 100000 in
theorem mX11_isTree : q_mt yX11_isTree cX11_isTree 2 (some .boolean) 1 := ⟨q_mt_5 50 rfl rfl, q_mt_1 1 rfl rfl, ⟨q_ncRX11.1, q_ncRX11.2.1, by decide +kernel⟩, by decide⟩
set_option maxRecDepth 100000 in
theorem lRX11_271 : Cond.methodLink RX11 271 yX11_isTree ∈ q_tb := q_mt_5 47 rfl rfl
set_option maxRecDepth 100000 in
theorem iX11_isTree : Cond.instanceMethod yX11_isTree ∈ q_tb := q_mt_5 49 rfl rfl
set_option maxRecDepth 100000 in
theorem eX11_isTree : Cond.selects (yX11_isTree).cls yX11_isTree yX11_isTree ∈ q_tb := q_ms 32 rfl rfl
set_option maxRecDepth 100000 in
theorem gRX11_274 : q_gf RX11 274 9 3 := ⟨_, _, _, rfl, by decide, q_inT9, q_mt_1 49 rfl rfl⟩
set_option maxRecDepth 100000 in
theorem gRX11_277 : q_gf RX11 277 9 4 := ⟨_, _, _, rfl, by decide, q_inT9, q_mt_1 53 rfl rfl⟩
set_option maxRecDepth 100000 in
theorem mX11_spellTree : q_mt yX11_spellTree cX11_spellTree 2 none 1 := ⟨q_mt_5 54 rfl rfl, q_mt_1 1 rfl rfl, ⟨q_ncRX11.1, q_ncRX11.2.1, by decide +kernel⟩, by decide⟩
set_option maxRecDepth 100000 in
theorem lRX11_280 : Cond.methodLink RX11 280 yX11_spellTree ∈ q_tb := q_mt_5 51 rfl rfl
set_option maxRecDepth 100000 in
theorem iX11_spellTree : Cond.instanceMethod yX11_spellTree ∈ q_tb := q_mt_5 53 rfl rfl
set_option maxRecDepth 100000 in
theorem eX11_spellTree : Cond.selects (yX11_spellTree).cls yX11_spellTree yX11_spellTree ∈ q_tb := q_ms 33 rfl rfl
set_option maxRecDepth 100000 in
theorem gRX11_106 : q_gf RX11 106 11 12 := ⟨_, _, _, rfl, by decide, q_inT11, q_mt_3 102 rfl rfl⟩
set_option maxRecDepth 100000 in
theorem gRX11_283 : q_gf RX11 283 6 1 := ⟨_, _, _, rfl, by decide, q_inT6, q_mt_2 237 rfl rfl⟩
set_option maxRecDepth 100000 in
theorem mX11_isNode : q_mt yX11_isNode cX11_isNode 3 (some .boolean) 2 := ⟨q_mt_5 84 rfl rfl, q_mt_1 1 rfl rfl, ⟨q_ncRX11.1, q_ncRX11.2.1, by decide +kernel⟩, by decide⟩
set_option maxRecDepth 100000 in
theorem lRX11_286 : Cond.methodLink RX11 286 yX11_isNode ∈ q_tb := q_mt_5 81 rfl rfl
set_option maxRecDepth 100000 in
theorem iX11_isNode : Cond.instanceMethod yX11_isNode ∈ q_tb := q_mt_5 83 rfl rfl
set_option maxRecDepth 100000 in
theorem eX11_isNode : Cond.selects (yX11_isNode).cls yX11_isNode yX11_isNode ∈ q_tb := q_ms 37 rfl rfl
set_option maxRecDepth 100000 in
theorem gRX11_289 : q_gf RX11 289 9 11 := ⟨_, _, _, rfl, by decide, q_inT9, q_mt_1 82 rfl rfl⟩
set_option maxRecDepth 100000 in
theorem gRX11_292 : q_gf RX11 292 9 5 := ⟨_, _, _, rfl, by decide, q_inT9, q_mt_1 61 rfl rfl⟩
set_option maxRecDepth 100000 in
theorem gRX11_295 : q_gf RX11 295 9 7 := ⟨_, _, _, rfl, by decide, q_inT9, q_mt_1 70 rfl rfl⟩
set_option maxRecDepth 100000 in
theorem gRX11_298 : q_gf RX11 298 9 10 := ⟨_, _, _, rfl, by decide, q_inT9, q_mt_1 77 rfl rfl⟩
set_option maxRecDepth 100000 in
theorem mX9_nodesIn : q_mt yX9_nodesIn cX9_nodesIn 4 (some .int) 1 := ⟨q_mt_5 88 rfl rfl, q_mt_1 2 rfl rfl, ⟨q_ncRX9.1, q_ncRX9.2.1, by decide +kernel⟩, by decide⟩
set_option maxRecDepth 100000 in
theorem lRX11_301 : Cond.methodLink RX11 301 yX9_nodesIn ∈ q_tb := q_mt_5 85 rfl rfl
set_option maxRecDepth 100000 in
theorem iX9_nodesIn : Cond.instanceMethod yX9_nodesIn ∈ q_tb := q_mt_5 86 rfl rfl
set_option maxRecDepth 100000 in
theorem eX9_nodesIn : Cond.selects (yX9_nodesIn).cls yX9_nodesIn yX9_nodesIn ∈ q_tb := q_mt_5 87 rfl rfl
set_option maxRecDepth 100000 in
theorem gRX11_304 : q_gf RX11 304 9 13 := ⟨_, _, _, rfl, by decide, q_inT9, q_mt_1 89 rfl rfl⟩
set_option maxRecDepth 100000 in
theorem mX9_child : q_mt yX9_child cX9_child 5 (some .int) 2 := ⟨q_mt_5 96 rfl rfl, q_mt_1 2 rfl rfl, ⟨q_ncRX9.1, q_ncRX9.2.1, by decide +kernel⟩, by decide⟩
set_option maxRecDepth 100000 in
theorem lRX11_307 : Cond.methodLink RX11 307 yX9_child ∈ q_tb := q_mt_5 93 rfl rfl
set_option maxRecDepth 100000 in
theorem iX9_child : Cond.instanceMethod yX9_child ∈ q_tb := q_mt_5 94 rfl rfl
set_option maxRecDepth 100000 in
theorem eX9_child : Cond.selects (yX9_child).cls yX9_child yX9_child ∈ q_tb := q_mt_5 95 rfl rfl
set_option maxRecDepth 100000 in
theorem mX9_isNodeAt : q_mt yX9_isNodeAt cX9_isNodeAt 2 (some .boolean) 1 := ⟨q_mt_4 177 rfl rfl, q_mt_1 2 rfl rfl, ⟨q_ncRX9.1, q_ncRX9.2.1, by decide +kernel⟩, by decide⟩
set_option maxRecDepth 100000 in
theorem lRX11_310 : Cond.methodLink RX11 310 yX9_isNodeAt ∈ q_tb := q_mt_5 97 rfl rfl
set_option maxRecDepth 100000 in
theorem iX9_isNodeAt : Cond.instanceMethod yX9_isNodeAt ∈ q_tb := q_mt_4 175 rfl rfl
set_option maxRecDepth 100000 in
theorem eX9_isNodeAt : Cond.selects (yX9_isNodeAt).cls yX9_isNodeAt yX9_isNodeAt ∈ q_tb := q_mt_4 176 rfl rfl
set_option maxRecDepth 100000 in
theorem mX11_isLeaf : q_mt yX11_isLeaf cX11_isLeaf 3 (some .boolean) 2 := ⟨q_mt_5 105 rfl rfl, q_mt_1 1 rfl rfl, ⟨q_ncRX11.1, q_ncRX11.2.1, by decide +kernel⟩, by decide⟩
set_option maxRecDepth 100000 in
theorem lRX11_313 : Cond.methodLink RX11 313 yX11_isLeaf ∈ q_tb := q_mt_5 102 rfl rfl
set_option maxRecDepth 100000 in
theorem iX11_isLeaf : Cond.instanceMethod yX11_isLeaf ∈ q_tb := q_mt_5 104 rfl rfl
set_option maxRecDepth 100000 in
theorem eX11_isLeaf : Cond.selects (yX11_isLeaf).cls yX11_isLeaf yX11_isLeaf ∈ q_tb := q_ms 38 rfl rfl
set_option maxRecDepth 100000 in
theorem gRX11_316 : q_gf RX11 316 9 12 := ⟨_, _, _, rfl, by decide, q_inT9, q_mt_1 86 rfl rfl⟩
set_option maxRecDepth 100000 in
theorem gRX11_319 : q_gf RX11 319 9 8 := ⟨_, _, _, rfl, by decide, q_inT9, q_mt_1 73 rfl rfl⟩
set_option maxRecDepth 100000 in
theorem mX6_codeAt : q_mt yX6_codeAt cX6_codeAt 2 (some .int) 1 := ⟨q_mt_5 113 rfl rfl, q_mt_1 12 rfl rfl, ⟨q_ncRX6.1, q_ncRX6.2.1, by decide +kernel⟩, by decide⟩
set_option maxRecDepth 100000 in
theorem lRX11_322 : Cond.methodLink RX11 322 yX6_codeAt ∈ q_tb := q_mt_5 110 rfl rfl
set_option maxRecDepth 100000 in
theorem iX6_codeAt : Cond.instanceMethod yX6_codeAt ∈ q_tb := q_mt_5 111 rfl rfl
set_option maxRecDepth 100000 in
theorem eX6_codeAt : Cond.selects (yX6_codeAt).cls yX6_codeAt yX6_codeAt ∈ q_tb := q_mt_5 112 rfl rfl
set_option maxRecDepth 100000 in
theorem kRX11_325 : Jvm.Cond.constant RX11 325 (-100006) ∈ q_tb := q_mt_4 182 rfl rfl
set_option maxRecDepth 100000 in
theorem gRX11_326 : q_gf RX11 326 6 0 := ⟨_, _, _, rfl, by decide, q_inT6, q_mt_2 235 rfl rfl⟩
set_option maxRecDepth 100000 in
theorem lRX11_329 : Cond.methodLink RX11 329 arraycopyName ∈ q_tb := q_mt_5 119 rfl rfl
set_option maxRecDepth 100000 in
theorem mX9_become : q_mt yX9_become cX9_become 2 none 1 := ⟨q_mt_4 186 rfl rfl, q_mt_1 2 rfl rfl, ⟨q_ncRX9.1, q_ncRX9.2.1, by decide +kernel⟩, by decide⟩
set_option maxRecDepth 100000 in
theorem lRX11_335 : Cond.methodLink RX11 335 yX9_become ∈ q_tb := q_mt_4 183 rfl rfl
set_option maxRecDepth 100000 in
theorem iX9_become : Cond.instanceMethod yX9_become ∈ q_tb := q_mt_4 184 rfl rfl
set_option maxRecDepth 100000 in
theorem eX9_become : Cond.selects (yX9_become).cls yX9_become yX9_become ∈ q_tb := q_mt_4 185 rfl rfl
set_option maxRecDepth 100000 in
theorem mX9_alike : q_mt yX9_alike cX9_alike 6 (some .boolean) 4 := ⟨q_mt_5 134 rfl rfl, q_mt_1 2 rfl rfl, ⟨q_ncRX9.1, q_ncRX9.2.1, by decide +kernel⟩, by decide⟩
set_option maxRecDepth 100000 in
theorem lRX11_339 : Cond.methodLink RX11 339 yX9_alike ∈ q_tb := q_mt_5 132 rfl rfl
set_option maxRecDepth 100000 in
theorem sX9_alike : Cond.static yX9_alike ∈ q_tb := q_mt_5 133 rfl rfl
set_option maxRecDepth 100000 in
theorem mX11_isWidth : q_mt yX11_isWidth cX11_isWidth 1 (some .boolean) 1 := ⟨q_mt_5 145 rfl rfl, q_mt_1 1 rfl rfl, ⟨q_ncRX11.1, q_ncRX11.2.1, by decide +kernel⟩, by decide⟩
set_option maxRecDepth 100000 in
theorem lRX11_343 : Cond.methodLink RX11 343 yX11_isWidth ∈ q_tb := q_mt_5 143 rfl rfl
set_option maxRecDepth 100000 in
theorem sX11_isWidth : Cond.static yX11_isWidth ∈ q_tb := q_mt_5 144 rfl rfl
set_option maxRecDepth 100000 in
theorem mX6_choose : q_mt yX6_choose cX6_choose 6 none 1 := ⟨q_mt_5 149 rfl rfl, q_mt_1 12 rfl rfl, ⟨q_ncRX6.1, q_ncRX6.2.1, by decide +kernel⟩, by decide⟩
set_option maxRecDepth 100000 in
theorem lRX11_346 : Cond.methodLink RX11 346 yX6_choose ∈ q_tb := q_mt_5 146 rfl rfl
set_option maxRecDepth 100000 in
theorem iX6_choose : Cond.instanceMethod yX6_choose ∈ q_tb := q_mt_5 147 rfl rfl
set_option maxRecDepth 100000 in
theorem eX6_choose : Cond.selects (yX6_choose).cls yX6_choose yX6_choose ∈ q_tb := q_mt_5 148 rfl rfl
set_option maxRecDepth 100000 in
theorem gRX11_349 : q_gf RX11 349 6 6 := ⟨_, _, _, rfl, by decide, q_inT6, q_mt_3 7 rfl rfl⟩
set_option maxRecDepth 100000 in
theorem gRX11_352 : q_gf RX11 352 6 4 := ⟨_, _, _, rfl, by decide, q_inT6, q_mt_3 3 rfl rfl⟩
set_option maxRecDepth 100000 in
theorem gRX11_355 : q_gf RX11 355 6 7 := ⟨_, _, _, rfl, by decide, q_inT6, q_mt_3 9 rfl rfl⟩
set_option maxRecDepth 100000 in
theorem gRX11_358 : q_gf RX11 358 6 5 := ⟨_, _, _, rfl, by decide, q_inT6, q_mt_3 5 rfl rfl⟩
set_option maxRecDepth 100000 in
theorem gRX11_361 : q_gf RX11 361 6 2 := ⟨_, _, _, rfl, by decide, q_inT6, q_mt_2 239 rfl rfl⟩
set_option maxRecDepth 100000 in
theorem gRX11_364 : q_gf RX11 364 6 3 := ⟨_, _, _, rfl, by decide, q_inT6, q_mt_3 1 rfl rfl⟩
set_option maxRecDepth 100000 in
theorem mX1_measure : q_mt yX1_measure cX1_measure 7 (some .int) 2 := ⟨q_mt_5 172 rfl rfl, q_mt_1 4 rfl rfl, ⟨q_ncRX1.1, q_ncRX1.2.1, by decide +kernel⟩, by decide⟩
set_option maxRecDepth 100000 in
theorem gRX11_61 : q_gf RX11 61 11 13 := ⟨_, _, _, rfl, by decide, q_inT11, q_mt_3 103 rfl rfl⟩
set_option maxRecDepth 100000 in
theorem lRX11_367 : Cond.methodLink RX11 367 yX1_measure ∈ q_tb := q_mt_5 169 rfl rfl
set_option maxRecDepth 100000 in
theorem iX1_measure : Cond.instanceMethod yX1_measure ∈ q_tb := q_mt_5 170 rfl rfl
set_option maxRecDepth 100000 in
theorem eX1_measure : Cond.selects (yX1_measure).cls yX1_measure yX1_measure ∈ q_tb := q_mt_5 171 rfl rfl
set_option maxRecDepth 100000 in
theorem mX1_findMove : q_mt yX1_findMove cX1_findMove 5 none 2 := ⟨q_mt_5 199 rfl rfl, q_mt_1 4 rfl rfl, ⟨q_ncRX1.1, q_ncRX1.2.1, by decide +kernel⟩, by decide⟩
set_option maxRecDepth 100000 in
theorem lRX11_371 : Cond.methodLink RX11 371 yX1_findMove ∈ q_tb := q_mt_5 196 rfl rfl
set_option maxRecDepth 100000 in
theorem iX1_findMove : Cond.instanceMethod yX1_findMove ∈ q_tb := q_mt_5 197 rfl rfl
set_option maxRecDepth 100000 in
theorem eX1_findMove : Cond.selects (yX1_findMove).cls yX1_findMove yX1_findMove ∈ q_tb := q_mt_5 198 rfl rfl
set_option maxRecDepth 100000 in
theorem gRX11_375 : q_gf RX11 375 1 0 := ⟨_, _, _, rfl, by decide, q_inT1, q_mt_1 165 rfl rfl⟩
set_option maxRecDepth 100000 in
theorem gRX11_378 : q_gf RX11 378 1 1 := ⟨_, _, _, rfl, by decide, q_inT1, q_mt_1 167 rfl rfl⟩
set_option maxRecDepth 100000 in
theorem gRX11_381 : q_gf RX11 381 1 2 := ⟨_, _, _, rfl, by decide, q_inT1, q_mt_1 169 rfl rfl⟩
set_option maxRecDepth 100000 in
theorem mX1_merge : q_mt yX1_merge cX1_merge 14 (some .int) 4 := ⟨q_mt_5 208 rfl rfl, q_mt_1 4 rfl rfl, ⟨q_ncRX1.1, q_ncRX1.2.1, by decide +kernel⟩, by decide⟩
set_option maxRecDepth 100000 in
theorem gRX11_29 : q_gf RX11 29 11 4 := ⟨_, _, _, rfl, by decide, q_inT11, q_mt_3 94 rfl rfl⟩
set_option maxRecDepth 100000 in
theorem lRX11_384 : Cond.methodLink RX11 384 yX1_merge ∈ q_tb := q_mt_5 206 rfl rfl
set_option maxRecDepth 100000 in
theorem sX1_merge : Cond.static yX1_merge ∈ q_tb := q_mt_5 207 rfl rfl
set_option maxRecDepth 100000 in
theorem mX9_index : q_mt yX9_index cX9_index 4 none 1 := ⟨q_mt_4 173 rfl rfl, q_mt_1 2 rfl rfl, ⟨q_ncRX9.1, q_ncRX9.2.1, by decide +kernel⟩, by decide⟩
set_option maxRecDepth 100000 in
theorem lRX11_388 : Cond.methodLink RX11 388 yX9_index ∈ q_tb := q_mt_5 220 rfl rfl
set_option maxRecDepth 100000 in
theorem iX9_index : Cond.instanceMethod yX9_index ∈ q_tb := q_mt_4 171 rfl rfl
set_option maxRecDepth 100000 in
theorem eX9_index : Cond.selects (yX9_index).cls yX9_index yX9_index ∈ q_tb := q_mt_4 172 rfl rfl
set_option maxRecDepth 100000 in
theorem mX11_bindTree : q_mt yX11_bindTree cX11_bindTree 2 none 1 := ⟨q_mt_5 228 rfl rfl, q_mt_1 1 rfl rfl, ⟨q_ncRX11.1, q_ncRX11.2.1, by decide +kernel⟩, by decide⟩
set_option maxRecDepth 100000 in
theorem lRX11_392 : Cond.methodLink RX11 392 yX11_bindTree ∈ q_tb := q_mt_5 225 rfl rfl
set_option maxRecDepth 100000 in
theorem iX11_bindTree : Cond.instanceMethod yX11_bindTree ∈ q_tb := q_mt_5 227 rfl rfl
set_option maxRecDepth 100000 in
theorem eX11_bindTree : Cond.selects (yX11_bindTree).cls yX11_bindTree yX11_bindTree ∈ q_tb := q_ms 45 rfl rfl
set_option maxRecDepth 100000 in
theorem mX0_isUse : q_mt yX0_isUse cX0_isUse 2 (some .boolean) 1 := ⟨q_mt_6 4 rfl rfl, q_mt_1 5 rfl rfl, ⟨q_ncRX0.1, q_ncRX0.2.1, by decide +kernel⟩, by decide⟩
set_option maxRecDepth 100000 in
theorem gRX11_68 : q_gf RX11 68 11 14 := ⟨_, _, _, rfl, by decide, q_inT11, q_mt_3 104 rfl rfl⟩
set_option maxRecDepth 100000 in
theorem lRX11_395 : Cond.methodLink RX11 395 yX0_isUse ∈ q_tb := q_mt_6 13 rfl rfl
set_option maxRecDepth 100000 in
theorem iX0_isUse : Cond.instanceMethod yX0_isUse ∈ q_tb := q_mt_6 2 rfl rfl
set_option maxRecDepth 100000 in
theorem eX0_isUse : Cond.selects (yX0_isUse).cls yX0_isUse yX0_isUse ∈ q_tb := q_mt_6 3 rfl rfl
set_option maxRecDepth 100000 in
theorem gRX11_398 : q_gf RX11 398 0 0 := ⟨_, _, _, rfl, by decide, q_inT0, q_mt_1 206 rfl rfl⟩
set_option maxRecDepth 100000 in
theorem mX0_isTell : q_mt yX0_isTell cX0_isTell 2 (some .boolean) 1 := ⟨q_mt_5 237 rfl rfl, q_mt_1 5 rfl rfl, ⟨q_ncRX0.1, q_ncRX0.2.1, by decide +kernel⟩, by decide⟩
set_option maxRecDepth 100000 in
theorem lRX11_401 : Cond.methodLink RX11 401 yX0_isTell ∈ q_tb := q_mt_6 18 rfl rfl
set_option maxRecDepth 100000 in
theorem iX0_isTell : Cond.instanceMethod yX0_isTell ∈ q_tb := q_mt_5 235 rfl rfl
set_option maxRecDepth 100000 in
theorem eX0_isTell : Cond.selects (yX0_isTell).cls yX0_isTell yX0_isTell ∈ q_tb := q_mt_5 236 rfl rfl
set_option maxRecDepth 100000 in
theorem mX0_countUses : q_mt yX0_countUses cX0_countUses 4 (some .int) 1 := ⟨q_mt_6 22 rfl rfl, q_mt_1 5 rfl rfl, ⟨q_ncRX0.1, q_ncRX0.2.1, by decide +kernel⟩, by decide⟩
set_option maxRecDepth 100000 in
theorem lRX11_404 : Cond.methodLink RX11 404 yX0_countUses ∈ q_tb := q_mt_6 19 rfl rfl
set_option maxRecDepth 100000 in
theorem iX0_countUses : Cond.instanceMethod yX0_countUses ∈ q_tb := q_mt_6 20 rfl rfl
set_option maxRecDepth 100000 in
theorem eX0_countUses : Cond.selects (yX0_countUses).cls yX0_countUses yX0_countUses ∈ q_tb := q_mt_6 21 rfl rfl
set_option maxRecDepth 100000 in
theorem mX0_remember : q_mt yX0_remember cX0_remember 1 none 0 := ⟨q_mt_6 30 rfl rfl, q_mt_1 5 rfl rfl, ⟨q_ncRX0.1, q_ncRX0.2.1, by decide +kernel⟩, by decide⟩
set_option maxRecDepth 100000 in
theorem lRX11_407 : Cond.methodLink RX11 407 yX0_remember ∈ q_tb := q_mt_6 27 rfl rfl
set_option maxRecDepth 100000 in
theorem iX0_remember : Cond.instanceMethod yX0_remember ∈ q_tb := q_mt_6 28 rfl rfl
set_option maxRecDepth 100000 in
theorem eX0_remember : Cond.selects (yX0_remember).cls yX0_remember yX0_remember ∈ q_tb := q_mt_6 29 rfl rfl
set_option maxRecDepth 100000 in
theorem mX0_spread : q_mt yX0_spread cX0_spread 5 none 3 := ⟨q_mt_6 35 rfl rfl, q_mt_1 5 rfl rfl, ⟨q_ncRX0.1, q_ncRX0.2.1, by decide +kernel⟩, by decide⟩
set_option maxRecDepth 100000 in
theorem lRX11_410 : Cond.methodLink RX11 410 yX0_spread ∈ q_tb := q_mt_6 32 rfl rfl
set_option maxRecDepth 100000 in
theorem iX0_spread : Cond.instanceMethod yX0_spread ∈ q_tb := q_mt_6 33 rfl rfl
set_option maxRecDepth 100000 in
theorem eX0_spread : Cond.selects (yX0_spread).cls yX0_spread yX0_spread ∈ q_tb := q_mt_6 34 rfl rfl
set_option maxRecDepth 100000 in
theorem mX0_firstCaught : q_mt yX0_firstCaught cX0_firstCaught 2 (some .int) 0 := ⟨q_mt_6 39 rfl rfl, q_mt_1 5 rfl rfl, ⟨q_ncRX0.1, q_ncRX0.2.1, by decide +kernel⟩, by decide⟩
set_option maxRecDepth 100000 in
theorem lRX11_414 : Cond.methodLink RX11 414 yX0_firstCaught ∈ q_tb := q_mt_6 36 rfl rfl
set_option maxRecDepth 100000 in
theorem iX0_firstCaught : Cond.instanceMethod yX0_firstCaught ∈ q_tb := q_mt_6 37 rfl rfl
set_option maxRecDepth 100000 in
theorem eX0_firstCaught : Cond.selects (yX0_firstCaught).cls yX0_firstCaught yX0_firstCaught ∈ q_tb := q_mt_6 38 rfl rfl
set_option maxRecDepth 100000 in
theorem mX11_holdRules : q_mt yX11_holdRules cX11_holdRules 2 none 1 := ⟨q_mt_6 47 rfl rfl, q_mt_1 1 rfl rfl, ⟨q_ncRX11.1, q_ncRX11.2.1, by decide +kernel⟩, by decide⟩
set_option maxRecDepth 100000 in
theorem lRX11_417 : Cond.methodLink RX11 417 yX11_holdRules ∈ q_tb := q_mt_6 44 rfl rfl
set_option maxRecDepth 100000 in
theorem iX11_holdRules : Cond.instanceMethod yX11_holdRules ∈ q_tb := q_mt_6 46 rfl rfl
set_option maxRecDepth 100000 in
theorem eX11_holdRules : Cond.selects (yX11_holdRules).cls yX11_holdRules yX11_holdRules ∈ q_tb := q_ms 48 rfl rfl
set_option maxRecDepth 100000 in
theorem mX2_holdAll : q_mt yX2_holdAll cX2_holdAll 2 none 0 := ⟨q_mt_6 61 rfl rfl, q_mt_1 6 rfl rfl, ⟨q_ncRX2.1, q_ncRX2.2.1, by decide +kernel⟩, by decide⟩
set_option maxRecDepth 100000 in
theorem gRX11_75 : q_gf RX11 75 11 15 := ⟨_, _, _, rfl, by decide, q_inT11, q_mt_3 105 rfl rfl⟩
set_option maxRecDepth 100000 in
theorem lRX11_420 : Cond.methodLink RX11 420 yX2_holdAll ∈ q_tb := q_mt_6 58 rfl rfl
set_option maxRecDepth 100000 in
theorem iX2_holdAll : Cond.instanceMethod yX2_holdAll ∈ q_tb := q_mt_6 59 rfl rfl
set_option maxRecDepth 100000 in
theorem eX2_holdAll : Cond.selects (yX2_holdAll).cls yX2_holdAll yX2_holdAll ∈ q_tb := q_mt_6 60 rfl rfl
set_option maxRecDepth 100000 in
theorem mX2_kindOf : q_mt yX2_kindOf cX2_kindOf 4 (some .int) 1 := ⟨q_mt_6 78 rfl rfl, q_mt_1 6 rfl rfl, ⟨q_ncRX2.1, q_ncRX2.2.1, by decide +kernel⟩, by decide⟩
set_option maxRecDepth 100000 in
theorem lRX11_423 : Cond.methodLink RX11 423 yX2_kindOf ∈ q_tb := q_mt_6 75 rfl rfl
set_option maxRecDepth 100000 in
theorem iX2_kindOf : Cond.instanceMethod yX2_kindOf ∈ q_tb := q_mt_6 76 rfl rfl
set_option maxRecDepth 100000 in
theorem eX2_kindOf : Cond.selects (yX2_kindOf).cls yX2_kindOf yX2_kindOf ∈ q_tb := q_mt_6 77 rfl rfl
set_option maxRecDepth 100000 in
theorem mX2_blame : q_mt yX2_blame cX2_blame 5 none 0 := ⟨q_mt_6 86 rfl rfl, q_mt_1 6 rfl rfl, ⟨q_ncRX2.1, q_ncRX2.2.1, by decide +kernel⟩, by decide⟩
set_option maxRecDepth 100000 in
theorem lRX11_426 : Cond.methodLink RX11 426 yX2_blame ∈ q_tb := q_mt_6 83 rfl rfl
set_option maxRecDepth 100000 in
theorem iX2_blame : Cond.instanceMethod yX2_blame ∈ q_tb := q_mt_6 84 rfl rfl
set_option maxRecDepth 100000 in
theorem eX2_blame : Cond.selects (yX2_blame).cls yX2_blame yX2_blame ∈ q_tb := q_mt_6 85 rfl rfl
set_option maxRecDepth 100000 in
theorem gRX11_429 : q_gf RX11 429 2 0 := ⟨_, _, _, rfl, by decide, q_inT2, q_mt_1 229 rfl rfl⟩
set_option maxRecDepth 100000 in
theorem mX2_blameCode : q_mt yX2_blameCode cX2_blameCode 2 (some .int) 1 := ⟨q_mt_6 94 rfl rfl, q_mt_1 6 rfl rfl, ⟨q_ncRX2.1, q_ncRX2.2.1, by decide +kernel⟩, by decide⟩
set_option maxRecDepth 100000 in
theorem lRX11_432 : Cond.methodLink RX11 432 yX2_blameCode ∈ q_tb := q_mt_6 91 rfl rfl
set_option maxRecDepth 100000 in
theorem iX2_blameCode : Cond.instanceMethod yX2_blameCode ∈ q_tb := q_mt_6 92 rfl rfl
set_option maxRecDepth 100000 in
theorem eX2_blameCode : Cond.selects (yX2_blameCode).cls yX2_blameCode yX2_blameCode ∈ q_tb := q_mt_6 93 rfl rfl
set_option maxRecDepth 100000 in
theorem mX11_isWorld : q_mt yX11_isWorld cX11_isWorld 1 (some .boolean) 1 := ⟨q_mt_6 102 rfl rfl, q_mt_1 1 rfl rfl, ⟨q_ncRX11.1, q_ncRX11.2.1, by decide +kernel⟩, by decide⟩
set_option maxRecDepth 100000 in
theorem lRX11_435 : Cond.methodLink RX11 435 yX11_isWorld ∈ q_tb := q_mt_6 100 rfl rfl
set_option maxRecDepth 100000 in
theorem sX11_isWorld : Cond.static yX11_isWorld ∈ q_tb := q_mt_6 101 rfl rfl
set_option maxRecDepth 100000 in
theorem gRX11_33 : q_gf RX11 33 11 5 := ⟨_, _, _, rfl, by decide, q_inT11, q_mt_3 95 rfl rfl⟩
set_option maxRecDepth 100000 in
theorem mX5_enter : q_mt yX5_enter cX5_enter 3 none 2 := ⟨q_mt_6 110 rfl rfl, q_mt_1 13 rfl rfl, ⟨q_ncRX5.1, q_ncRX5.2.1, by decide +kernel⟩, by decide⟩
set_option maxRecDepth 100000 in
theorem gRX11_115 : q_gf RX11 115 11 16 := ⟨_, _, _, rfl, by decide, q_inT11, q_mt_3 106 rfl rfl⟩
set_option maxRecDepth 100000 in
theorem lRX11_438 : Cond.methodLink RX11 438 yX5_enter ∈ q_tb := q_mt_6 107 rfl rfl
set_option maxRecDepth 100000 in
theorem iX5_enter : Cond.instanceMethod yX5_enter ∈ q_tb := q_mt_6 108 rfl rfl
set_option maxRecDepth 100000 in
theorem eX5_enter : Cond.selects (yX5_enter).cls yX5_enter yX5_enter ∈ q_tb := q_mt_6 109 rfl rfl
set_option maxRecDepth 100000 in
theorem mX5_work : q_mt yX5_work cX5_work 5 (some .int) 3 := ⟨q_mt_6 115 rfl rfl, q_mt_1 13 rfl rfl, ⟨q_ncRX5.1, q_ncRX5.2.1, by decide +kernel⟩, by decide⟩
set_option maxRecDepth 100000 in
theorem lRX11_441 : Cond.methodLink RX11 441 yX5_work ∈ q_tb := q_mt_6 112 rfl rfl
set_option maxRecDepth 100000 in
theorem iX5_work : Cond.instanceMethod yX5_work ∈ q_tb := q_mt_6 113 rfl rfl
set_option maxRecDepth 100000 in
theorem eX5_work : Cond.selects (yX5_work).cls yX5_work yX5_work ∈ q_tb := q_mt_6 114 rfl rfl
set_option maxRecDepth 100000 in
theorem gRX11_445 : q_gf RX11 445 5 1 := ⟨_, _, _, rfl, by decide, q_inT5, q_mt_3 66 rfl rfl⟩
set_option maxRecDepth 100000 in
theorem gRX11_448 : q_gf RX11 448 11 18 := ⟨_, _, _, rfl, by decide, q_inT11, q_mt_3 108 rfl rfl⟩
set_option maxRecDepth 100000 in
theorem pRX11_448 : q_pf RX11 448 11 18 .int := ⟨_, _, _, tyX11, rfl, by decide, q_inT11, q_mt_3 108 rfl rfl, tyX11_ok, nmX11, rfl, tyX11_ok 18 (by decide)⟩
set_option maxRecDepth 100000 in
theorem gRX11_451 : q_gf RX11 451 5 0 := ⟨_, _, _, rfl, by decide, q_inT5, q_mt_3 64 rfl rfl⟩
set_option maxRecDepth 100000 in
theorem gRX11_454 : q_gf RX11 454 10 1 := ⟨_, _, _, rfl, by decide, q_inT10, q_mt_2 32 rfl rfl⟩
set_option maxRecDepth 100000 in
theorem mX10_addPair : q_mt yX10_addPair cX10_addPair 3 (some .int) 2 := ⟨q_mt_6 154 rfl rfl, q_mt_1 7 rfl rfl, ⟨q_ncRX10.1, q_ncRX10.2.1, by decide +kernel⟩, by decide⟩
set_option maxRecDepth 100000 in
theorem lRX11_457 : Cond.methodLink RX11 457 yX10_addPair ∈ q_tb := q_mt_6 151 rfl rfl
set_option maxRecDepth 100000 in
theorem iX10_addPair : Cond.instanceMethod yX10_addPair ∈ q_tb := q_mt_6 152 rfl rfl
set_option maxRecDepth 100000 in
theorem eX10_addPair : Cond.selects (yX10_addPair).cls yX10_addPair yX10_addPair ∈ q_tb := q_mt_6 153 rfl rfl
set_option maxRecDepth 100000 in
theorem pRX11_213 : q_pf RX11 213 10 0 .int := ⟨_, _, _, tyX10, rfl, by decide, q_inT10, q_mt_2 30 rfl rfl, tyX10_ok, nmX10, rfl, tyX10_ok 0 (by decide)⟩
set_option maxRecDepth 100000 in
theorem mX11_isTurnNumber : q_mt yX11_isTurnNumber cX11_isTurnNumber 1 (some .boolean) 1 := ⟨q_mt_6 166 rfl rfl, q_mt_1 1 rfl rfl, ⟨q_ncRX11.1, q_ncRX11.2.1, by decide +kernel⟩, by decide⟩
set_option maxRecDepth 100000 in
theorem lRX11_460 : Cond.methodLink RX11 460 yX11_isTurnNumber ∈ q_tb := q_mt_6 164 rfl rfl
set_option maxRecDepth 100000 in
theorem sX11_isTurnNumber : Cond.static yX11_isTurnNumber ∈ q_tb := q_mt_6 165 rfl rfl
set_option maxRecDepth 100000 in
theorem mX10_layOver : q_mt yX10_layOver cX10_layOver 3 (some .int) 2 := ⟨q_mt_6 170 rfl rfl, q_mt_1 7 rfl rfl, ⟨q_ncRX10.1, q_ncRX10.2.1, by decide +kernel⟩, by decide⟩
set_option maxRecDepth 100000 in
theorem lRX11_463 : Cond.methodLink RX11 463 yX10_layOver ∈ q_tb := q_mt_6 167 rfl rfl
set_option maxRecDepth 100000 in
theorem iX10_layOver : Cond.instanceMethod yX10_layOver ∈ q_tb := q_mt_6 168 rfl rfl
set_option maxRecDepth 100000 in
theorem eX10_layOver : Cond.selects (yX10_layOver).cls yX10_layOver yX10_layOver ∈ q_tb := q_mt_6 169 rfl rfl
set_option maxRecDepth 100000 in
theorem mX11_isTurn : q_mt yX11_isTurn cX11_isTurn 2 (some .boolean) 1 := ⟨q_mt_6 206 rfl rfl, q_mt_1 1 rfl rfl, ⟨q_ncRX11.1, q_ncRX11.2.1, by decide +kernel⟩, by decide⟩
set_option maxRecDepth 100000 in
theorem lRX11_467 : Cond.methodLink RX11 467 yX11_isTurn ∈ q_tb := q_mt_6 203 rfl rfl
set_option maxRecDepth 100000 in
theorem iX11_isTurn : Cond.instanceMethod yX11_isTurn ∈ q_tb := q_mt_6 205 rfl rfl
set_option maxRecDepth 100000 in
theorem eX11_isTurn : Cond.selects (yX11_isTurn).cls yX11_isTurn yX11_isTurn ∈ q_tb := q_ms 64 rfl rfl
set_option maxRecDepth 100000 in
theorem mX10_side : q_mt yX10_side cX10_side 3 (some (.object "GrammarTools$Tree")) 2 := ⟨q_mt_3 205 rfl rfl, q_mt_1 7 rfl rfl, ⟨q_ncRX10.1, q_ncRX10.2.1, by decide +kernel⟩, by decide⟩
set_option maxRecDepth 100000 in
theorem lRX11_470 : Cond.methodLink RX11 470 yX10_side ∈ q_tb := q_mt_6 207 rfl rfl
set_option maxRecDepth 100000 in
theorem iX10_side : Cond.instanceMethod yX10_side ∈ q_tb := q_mt_3 203 rfl rfl
set_option maxRecDepth 100000 in
theorem eX10_side : Cond.selects (yX10_side).cls yX10_side yX10_side ∈ q_tb := q_mt_3 204 rfl rfl
set_option maxRecDepth 100000 in
theorem mX6_spellOut : q_mt yX6_spellOut cX6_spellOut 3 none 2 := ⟨q_mt_5 58 rfl rfl, q_mt_1 12 rfl rfl, ⟨q_ncRX6.1, q_ncRX6.2.1, by decide +kernel⟩, by decide⟩
set_option maxRecDepth 100000 in
theorem lRX11_474 : Cond.methodLink RX11 474 yX6_spellOut ∈ q_tb := q_mt_5 55 rfl rfl
set_option maxRecDepth 100000 in
theorem iX6_spellOut : Cond.instanceMethod yX6_spellOut ∈ q_tb := q_mt_5 56 rfl rfl
set_option maxRecDepth 100000 in
theorem eX6_spellOut : Cond.selects (yX6_spellOut).cls yX6_spellOut yX6_spellOut ∈ q_tb := q_mt_5 57 rfl rfl
set_option maxRecDepth 100000 in
theorem mX10_countFits : q_mt yX10_countFits cX10_countFits 6 (some .int) 3 := ⟨q_mt_6 215 rfl rfl, q_mt_1 7 rfl rfl, ⟨q_ncRX10.1, q_ncRX10.2.1, by decide +kernel⟩, by decide⟩
set_option maxRecDepth 100000 in
theorem lRX11_477 : Cond.methodLink RX11 477 yX10_countFits ∈ q_tb := q_mt_6 212 rfl rfl
set_option maxRecDepth 100000 in
theorem iX10_countFits : Cond.instanceMethod yX10_countFits ∈ q_tb := q_mt_6 213 rfl rfl
set_option maxRecDepth 100000 in
theorem eX10_countFits : Cond.selects (yX10_countFits).cls yX10_countFits yX10_countFits ∈ q_tb := q_mt_6 214 rfl rfl
set_option maxRecDepth 100000 in
theorem mX10_putIn : q_mt yX10_putIn cX10_putIn 9 (some .int) 4 := ⟨q_mt_6 228 rfl rfl, q_mt_1 7 rfl rfl, ⟨q_ncRX10.1, q_ncRX10.2.1, by decide +kernel⟩, by decide⟩
set_option maxRecDepth 100000 in
theorem lRX11_481 : Cond.methodLink RX11 481 yX10_putIn ∈ q_tb := q_mt_6 225 rfl rfl
set_option maxRecDepth 100000 in
theorem iX10_putIn : Cond.instanceMethod yX10_putIn ∈ q_tb := q_mt_6 226 rfl rfl
set_option maxRecDepth 100000 in
theorem eX10_putIn : Cond.selects (yX10_putIn).cls yX10_putIn yX10_putIn ∈ q_tb := q_mt_6 227 rfl rfl
set_option maxRecDepth 100000 in
theorem gRX11_485 : q_gf RX11 485 10 3 := ⟨_, _, _, rfl, by decide, q_inT10, q_mt_2 36 rfl rfl⟩
set_option maxRecDepth 100000 in
theorem mX10_seek : q_mt yX10_seek cX10_seek 7 (some .int) 2 := ⟨q_mt_7 6 rfl rfl, q_mt_1 7 rfl rfl, ⟨q_ncRX10.1, q_ncRX10.2.1, by decide +kernel⟩, by decide⟩
set_option maxRecDepth 100000 in
theorem lRX11_488 : Cond.methodLink RX11 488 yX10_seek ∈ q_tb := q_mt_7 3 rfl rfl
set_option maxRecDepth 100000 in
theorem iX10_seek : Cond.instanceMethod yX10_seek ∈ q_tb := q_mt_7 4 rfl rfl
set_option maxRecDepth 100000 in
theorem eX10_seek : Cond.selects (yX10_seek).cls yX10_seek yX10_seek ∈ q_tb := q_mt_7 5 rfl rfl
set_option maxRecDepth 100000 in
theorem mX11_areSlots : q_mt yX11_areSlots cX11_areSlots 11 (some .boolean) 2 := ⟨q_mt_7 49 rfl rfl, q_mt_1 1 rfl rfl, ⟨q_ncRX11.1, q_ncRX11.2.1, by decide +kernel⟩, by decide⟩
set_option maxRecDepth 100000 in
theorem lRX11_492 : Cond.methodLink RX11 492 yX11_areSlots ∈ q_tb := q_mt_7 46 rfl rfl
set_option maxRecDepth 100000 in
theorem iX11_areSlots : Cond.instanceMethod yX11_areSlots ∈ q_tb := q_mt_7 48 rfl rfl
set_option maxRecDepth 100000 in
theorem eX11_areSlots : Cond.selects (yX11_areSlots).cls yX11_areSlots yX11_areSlots ∈ q_tb := q_ms 73 rfl rfl
set_option maxRecDepth 100000 in
theorem gRX11_42 : q_gf RX11 42 11 8 := ⟨_, _, _, rfl, by decide, q_inT11, q_mt_3 98 rfl rfl⟩
set_option maxRecDepth 100000 in
theorem mX11_firstUnmapped : q_mt yX11_firstUnmapped cX11_firstUnmapped 4 (some .int) 1 := ⟨q_mt_7 61 rfl rfl, q_mt_1 1 rfl rfl, ⟨q_ncRX11.1, q_ncRX11.2.1, by decide +kernel⟩, by decide⟩
set_option maxRecDepth 100000 in
theorem lRX11_495 : Cond.methodLink RX11 495 yX11_firstUnmapped ∈ q_tb := q_mt_7 58 rfl rfl
set_option maxRecDepth 100000 in
theorem iX11_firstUnmapped : Cond.instanceMethod yX11_firstUnmapped ∈ q_tb := q_mt_7 60 rfl rfl
set_option maxRecDepth 100000 in
theorem eX11_firstUnmapped : Cond.selects (yX11_firstUnmapped).cls yX11_firstUnmapped yX11_firstUnmapped ∈ q_tb := q_ms 74 rfl rfl
set_option maxRecDepth 100000 in
theorem mX9_start : q_mt yX9_start cX9_start 2 none 1 := ⟨q_mt_4 148 rfl rfl, q_mt_1 2 rfl rfl, ⟨q_ncRX9.1, q_ncRX9.2.1, by decide +kernel⟩, by decide⟩
set_option maxRecDepth 100000 in
theorem lRX11_499 : Cond.methodLink RX11 499 yX9_start ∈ q_tb := q_mt_7 62 rfl rfl
set_option maxRecDepth 100000 in
theorem iX9_start : Cond.instanceMethod yX9_start ∈ q_tb := q_mt_4 146 rfl rfl
set_option maxRecDepth 100000 in
theorem eX9_start : Cond.selects (yX9_start).cls yX9_start yX9_start ∈ q_tb := q_mt_4 147 rfl rfl
set_option maxRecDepth 100000 in
theorem mX11_carryPiece : q_mt yX11_carryPiece cX11_carryPiece 10 (some .boolean) 4 := ⟨q_mt_7 66 rfl rfl, q_mt_1 1 rfl rfl, ⟨q_ncRX11.1, q_ncRX11.2.1, by decide +kernel⟩, by decide⟩
set_option maxRecDepth 100000 in
theorem lRX11_502 : Cond.methodLink RX11 502 yX11_carryPiece ∈ q_tb := q_mt_7 63 rfl rfl
set_option maxRecDepth 100000 in
theorem iX11_carryPiece : Cond.instanceMethod yX11_carryPiece ∈ q_tb := q_mt_7 65 rfl rfl
set_option maxRecDepth 100000 in
theorem eX11_carryPiece : Cond.selects (yX11_carryPiece).cls yX11_carryPiece yX11_carryPiece ∈ q_tb := q_ms 75 rfl rfl
set_option maxRecDepth 100000 in
theorem mX3_growTree : q_mt yX3_growTree cX3_growTree 3 (some .boolean) 2 := ⟨q_mt_4 144 rfl rfl, q_mt_1 11 rfl rfl, ⟨q_ncRX3.1, q_ncRX3.2.1, by decide +kernel⟩, by decide⟩
set_option maxRecDepth 100000 in
theorem lRX11_506 : Cond.methodLink RX11 506 yX3_growTree ∈ q_tb := q_mt_4 141 rfl rfl
set_option maxRecDepth 100000 in
theorem iX3_growTree : Cond.instanceMethod yX3_growTree ∈ q_tb := q_mt_4 142 rfl rfl
set_option maxRecDepth 100000 in
theorem eX3_growTree : Cond.selects (yX3_growTree).cls yX3_growTree yX3_growTree ∈ q_tb := q_mt_4 143 rfl rfl
set_option maxRecDepth 100000 in
theorem mX0_firstUnbound : q_mt yX0_firstUnbound cX0_firstUnbound 2 (some .int) 0 := ⟨q_mt_7 79 rfl rfl, q_mt_1 5 rfl rfl, ⟨q_ncRX0.1, q_ncRX0.2.1, by decide +kernel⟩, by decide⟩
set_option maxRecDepth 100000 in
theorem lRX11_510 : Cond.methodLink RX11 510 yX0_firstUnbound ∈ q_tb := q_mt_7 76 rfl rfl
set_option maxRecDepth 100000 in
theorem iX0_firstUnbound : Cond.instanceMethod yX0_firstUnbound ∈ q_tb := q_mt_7 77 rfl rfl
set_option maxRecDepth 100000 in
theorem eX0_firstUnbound : Cond.selects (yX0_firstUnbound).cls yX0_firstUnbound yX0_firstUnbound ∈ q_tb := q_mt_7 78 rfl rfl
set_option maxRecDepth 100000 in
theorem mX2_hold : q_mt yX2_hold cX2_hold 12 none 3 := ⟨q_mt_6 51 rfl rfl, q_mt_1 6 rfl rfl, ⟨q_ncRX2.1, q_ncRX2.2.1, by decide +kernel⟩, by decide⟩
set_option maxRecDepth 100000 in
theorem lRX11_513 : Cond.methodLink RX11 513 yX2_hold ∈ q_tb := q_mt_6 48 rfl rfl
set_option maxRecDepth 100000 in
theorem iX2_hold : Cond.instanceMethod yX2_hold ∈ q_tb := q_mt_6 49 rfl rfl
set_option maxRecDepth 100000 in
theorem eX2_hold : Cond.selects (yX2_hold).cls yX2_hold yX2_hold ∈ q_tb := q_mt_6 50 rfl rfl
set_option maxRecDepth 100000 in
theorem mX11_isSheet : q_mt yX11_isSheet cX11_isSheet 1 (some .boolean) 1 := ⟨q_mt_7 86 rfl rfl, q_mt_1 1 rfl rfl, ⟨q_ncRX11.1, q_ncRX11.2.1, by decide +kernel⟩, by decide⟩
set_option maxRecDepth 100000 in
theorem lRX11_517 : Cond.methodLink RX11 517 yX11_isSheet ∈ q_tb := q_mt_7 84 rfl rfl
set_option maxRecDepth 100000 in
theorem sX11_isSheet : Cond.static yX11_isSheet ∈ q_tb := q_mt_7 85 rfl rfl
set_option maxRecDepth 100000 in
theorem mX7_make : q_mt yX7_make cX7_make 3 (some .int) 2 := ⟨q_mt_7 90 rfl rfl, q_mt_1 10 rfl rfl, ⟨q_ncRX7.1, q_ncRX7.2.1, by decide +kernel⟩, by decide⟩
set_option maxRecDepth 100000 in
theorem gRX11_47 : q_gf RX11 47 11 9 := ⟨_, _, _, rfl, by decide, q_inT11, q_mt_3 99 rfl rfl⟩
set_option maxRecDepth 100000 in
theorem lRX11_520 : Cond.methodLink RX11 520 yX7_make ∈ q_tb := q_mt_7 87 rfl rfl
set_option maxRecDepth 100000 in
theorem iX7_make : Cond.instanceMethod yX7_make ∈ q_tb := q_mt_7 88 rfl rfl
set_option maxRecDepth 100000 in
theorem eX7_make : Cond.selects (yX7_make).cls yX7_make yX7_make ∈ q_tb := q_mt_7 89 rfl rfl
set_option maxRecDepth 100000 in
theorem gRX11_523 : q_gf RX11 523 7 0 := ⟨_, _, _, rfl, by decide, q_inT7, q_mt_2 180 rfl rfl⟩
set_option maxRecDepth 100000 in
theorem gRX11_524 : q_gf RX11 524 7 2 := ⟨_, _, _, rfl, by decide, q_inT7, q_mt_2 184 rfl rfl⟩
set_option maxRecDepth 100000 in
theorem mX7_store : q_mt yX7_store cX7_store 3 (some .int) 2 := ⟨q_mt_7 99 rfl rfl, q_mt_1 10 rfl rfl, ⟨q_ncRX7.1, q_ncRX7.2.1, by decide +kernel⟩, by decide⟩
set_option maxRecDepth 100000 in
theorem lRX11_525 : Cond.methodLink RX11 525 yX7_store ∈ q_tb := q_mt_7 96 rfl rfl
set_option maxRecDepth 100000 in
theorem iX7_store : Cond.instanceMethod yX7_store ∈ q_tb := q_mt_7 97 rfl rfl
set_option maxRecDepth 100000 in
theorem eX7_store : Cond.selects (yX7_store).cls yX7_store yX7_store ∈ q_tb := q_mt_7 98 rfl rfl
set_option maxRecDepth 100000 in
theorem gRX11_528 : q_gf RX11 528 7 3 := ⟨_, _, _, rfl, by decide, q_inT7, q_mt_2 186 rfl rfl⟩
set_option maxRecDepth 100000 in
theorem gRX11_531 : q_gf RX11 531 7 1 := ⟨_, _, _, rfl, by decide, q_inT7, q_mt_2 182 rfl rfl⟩
set_option maxRecDepth 100000 in
theorem gRX11_534 : q_gf RX11 534 10 2 := ⟨_, _, _, rfl, by decide, q_inT10, q_mt_2 34 rfl rfl⟩
set_option maxRecDepth 100000 in
theorem mX11_isName : q_mt yX11_isName cX11_isName 1 (some .boolean) 1 := ⟨q_mt_4 35 rfl rfl, q_mt_1 1 rfl rfl, ⟨q_ncRX11.1, q_ncRX11.2.1, by decide +kernel⟩, by decide⟩
set_option maxRecDepth 100000 in
theorem lRX11_536 : Cond.methodLink RX11 536 yX11_isName ∈ q_tb := q_mt_4 33 rfl rfl
set_option maxRecDepth 100000 in
theorem sX11_isName : Cond.static yX11_isName ∈ q_tb := q_mt_4 34 rfl rfl
set_option maxRecDepth 100000 in
theorem mX11_isNumber : q_mt yX11_isNumber cX11_isNumber 1 (some .boolean) 1 := ⟨q_mt_4 38 rfl rfl, q_mt_1 1 rfl rfl, ⟨q_ncRX11.1, q_ncRX11.2.1, by decide +kernel⟩, by decide⟩
set_option maxRecDepth 100000 in
theorem lRX11_539 : Cond.methodLink RX11 539 yX11_isNumber ∈ q_tb := q_mt_4 36 rfl rfl
set_option maxRecDepth 100000 in
theorem sX11_isNumber : Cond.static yX11_isNumber ∈ q_tb := q_mt_4 37 rfl rfl
set_option maxRecDepth 100000 in
theorem mX11_isSort : q_mt yX11_isSort cX11_isSort 1 (some .boolean) 1 := ⟨q_mt_3 187 rfl rfl, q_mt_1 1 rfl rfl, ⟨q_ncRX11.1, q_ncRX11.2.1, by decide +kernel⟩, by decide⟩
set_option maxRecDepth 100000 in
theorem lRX11_542 : Cond.methodLink RX11 542 yX11_isSort ∈ q_tb := q_mt_3 185 rfl rfl
set_option maxRecDepth 100000 in
theorem sX11_isSort : Cond.static yX11_isSort ∈ q_tb := q_mt_3 186 rfl rfl
set_option maxRecDepth 100000 in
theorem mX11_isItem : q_mt yX11_isItem cX11_isItem 1 (some .boolean) 1 := ⟨q_mt_3 184 rfl rfl, q_mt_1 1 rfl rfl, ⟨q_ncRX11.1, q_ncRX11.2.1, by decide +kernel⟩, by decide⟩
set_option maxRecDepth 100000 in
theorem lRX11_545 : Cond.methodLink RX11 545 yX11_isItem ∈ q_tb := q_mt_3 182 rfl rfl
set_option maxRecDepth 100000 in
theorem sX11_isItem : Cond.static yX11_isItem ∈ q_tb := q_mt_3 183 rfl rfl
set_option maxRecDepth 100000 in
theorem mX0_bind : q_mt yX0_bind cX0_bind 6 none 2 := ⟨q_mt_5 232 rfl rfl, q_mt_1 5 rfl rfl, ⟨q_ncRX0.1, q_ncRX0.2.1, by decide +kernel⟩, by decide⟩
set_option maxRecDepth 100000 in
theorem lRX11_548 : Cond.methodLink RX11 548 yX0_bind ∈ q_tb := q_mt_5 229 rfl rfl
set_option maxRecDepth 100000 in
theorem iX0_bind : Cond.instanceMethod yX0_bind ∈ q_tb := q_mt_5 230 rfl rfl
set_option maxRecDepth 100000 in
theorem eX0_bind : Cond.selects (yX0_bind).cls yX0_bind yX0_bind ∈ q_tb := q_mt_5 231 rfl rfl
set_option maxRecDepth 100000 in
theorem mX9_add : q_mt yX9_add cX9_add 3 (some .boolean) 1 := ⟨q_mt_4 160 rfl rfl, q_mt_1 2 rfl rfl, ⟨q_ncRX9.1, q_ncRX9.2.1, by decide +kernel⟩, by decide⟩
set_option maxRecDepth 100000 in
theorem lRX11_551 : Cond.methodLink RX11 551 yX9_add ∈ q_tb := q_mt_7 67 rfl rfl
set_option maxRecDepth 100000 in
theorem iX9_add : Cond.instanceMethod yX9_add ∈ q_tb := q_mt_4 158 rfl rfl
set_option maxRecDepth 100000 in
theorem eX9_add : Cond.selects (yX9_add).cls yX9_add yX9_add ∈ q_tb := q_mt_4 159 rfl rfl
set_option maxRecDepth 100000 in
theorem gRX8_58 : q_gf RX8 58 8 1 := ⟨_, _, _, rfl, by decide, q_inT8, q_mt_2 100 rfl rfl⟩
set_option maxRecDepth 100000 in
theorem gRX8_15 : q_gf RX8 15 8 2 := ⟨_, _, _, rfl, by decide, q_inT8, q_mt_2 104 rfl rfl⟩
set_option maxRecDepth 100000 in
theorem gRX8_18 : q_gf RX8 18 8 3 := ⟨_, _, _, rfl, by decide, q_inT8, q_mt_2 109 rfl rfl⟩
set_option maxRecDepth 100000 in
theorem gRX8_24 : q_gf RX8 24 8 5 := ⟨_, _, _, rfl, by decide, q_inT8, q_mt_2 119 rfl rfl⟩
set_option maxRecDepth 100000 in
theorem gRX8_36 : q_gf RX8 36 8 9 := ⟨_, _, _, rfl, by decide, q_inT8, q_mt_2 132 rfl rfl⟩
set_option maxRecDepth 100000 in
theorem gRX8_39 : q_gf RX8 39 8 10 := ⟨_, _, _, rfl, by decide, q_inT8, q_mt_2 135 rfl rfl⟩
set_option maxRecDepth 100000 in
theorem gRX8_43 : q_gf RX8 43 8 11 := ⟨_, _, _, rfl, by decide, q_inT8, q_mt_2 138 rfl rfl⟩
set_option maxRecDepth 100000 in
theorem gRX8_21 : q_gf RX8 21 8 4 := ⟨_, _, _, rfl, by decide, q_inT8, q_mt_2 114 rfl rfl⟩
set_option maxRecDepth 100000 in
theorem gRX8_30 : q_gf RX8 30 8 7 := ⟨_, _, _, rfl, by decide, q_inT8, q_mt_2 126 rfl rfl⟩
set_option maxRecDepth 100000 in
theorem gRX8_33 : q_gf RX8 33 8 8 := ⟨_, _, _, rfl, by decide, q_inT8, q_mt_2 129 rfl rfl⟩
set_option maxRecDepth 100000 in
theorem lRX8_62 : Cond.methodLinkNest RX8 62 yX11_isWord "GrammarTools" ∈ q_nt := q_mn3 193 rfl rfl
set_option maxRecDepth 100000 in
theorem gRX8_27 : q_gf RX8 27 8 6 := ⟨_, _, _, rfl, by decide, q_inT8, q_mt_2 124 rfl rfl⟩
set_option maxRecDepth 100000 in
theorem pRX8_58 : q_pf RX8 58 8 1 .int := ⟨_, _, _, tyX8, rfl, by decide, q_inT8, q_mt_2 100 rfl rfl, tyX8_ok, nmX8, rfl, tyX8_ok 1 (by decide)⟩
set_option maxRecDepth 100000 in
theorem gRX8_46 : q_gf RX8 46 8 12 := ⟨_, _, _, rfl, by decide, q_inT8, q_mt_2 141 rfl rfl⟩
set_option maxRecDepth 100000 in
theorem gRX8_49 : q_gf RX8 49 8 13 := ⟨_, _, _, rfl, by decide, q_inT8, q_mt_2 143 rfl rfl⟩
set_option maxRecDepth 100000 in
theorem mX8_ableSorts : q_mt yX8_ableSorts cX8_ableSorts 4 (some .int) 0 := ⟨q_mt_4 200 rfl rfl, q_mt_1 8 rfl rfl, ⟨q_ncRX8.1, q_ncRX8.2.1, by decide +kernel⟩, by decide⟩
set_option maxRecDepth 100000 in
theorem lRX8_66 : Cond.methodLink RX8 66 yX8_ableSorts ∈ q_tb := q_mt_4 197 rfl rfl
set_option maxRecDepth 100000 in
theorem iX8_ableSorts : Cond.instanceMethod yX8_ableSorts ∈ q_tb := q_mt_4 199 rfl rfl
set_option maxRecDepth 100000 in
theorem eX8_ableSorts : Cond.selects (yX8_ableSorts).cls yX8_ableSorts yX8_ableSorts ∈ q_tb := q_ms 23 rfl rfl
set_option maxRecDepth 100000 in
theorem mX8_reachedSorts : q_mt yX8_reachedSorts cX8_reachedSorts 6 (some .int) 1 := ⟨q_mt_4 213 rfl rfl, q_mt_1 8 rfl rfl, ⟨q_ncRX8.1, q_ncRX8.2.1, by decide +kernel⟩, by decide⟩
set_option maxRecDepth 100000 in
theorem lRX8_70 : Cond.methodLink RX8 70 yX8_reachedSorts ∈ q_tb := q_mt_4 210 rfl rfl
set_option maxRecDepth 100000 in
theorem iX8_reachedSorts : Cond.instanceMethod yX8_reachedSorts ∈ q_tb := q_mt_4 212 rfl rfl
set_option maxRecDepth 100000 in
theorem eX8_reachedSorts : Cond.selects (yX8_reachedSorts).cls yX8_reachedSorts yX8_reachedSorts ∈ q_tb := q_ms 26 rfl rfl
set_option maxRecDepth 100000 in
theorem mX8_sortsWithin : q_mt yX8_sortsWithin cX8_sortsWithin 3 (some .boolean) 2 := ⟨q_mt_4 204 rfl rfl, q_mt_1 8 rfl rfl, ⟨q_ncRX8.1, q_ncRX8.2.1, by decide +kernel⟩, by decide⟩
set_option maxRecDepth 100000 in
theorem lRX8_74 : Cond.methodLink RX8 74 yX8_sortsWithin ∈ q_tb := q_mt_4 201 rfl rfl
set_option maxRecDepth 100000 in
theorem iX8_sortsWithin : Cond.instanceMethod yX8_sortsWithin ∈ q_tb := q_mt_4 203 rfl rfl
set_option maxRecDepth 100000 in
theorem eX8_sortsWithin : Cond.selects (yX8_sortsWithin).cls yX8_sortsWithin yX8_sortsWithin ∈ q_tb := q_ms 24 rfl rfl
set_option maxRecDepth 100000 in
theorem mX8_sortsIn : q_mt yX8_sortsIn cX8_sortsIn 5 (some .int) 1 := ⟨q_mt_4 208 rfl rfl, q_mt_1 8 rfl rfl, ⟨q_ncRX8.1, q_ncRX8.2.1, by decide +kernel⟩, by decide⟩
set_option maxRecDepth 100000 in
theorem lRX8_78 : Cond.methodLink RX8 78 yX8_sortsIn ∈ q_tb := q_mt_4 205 rfl rfl
set_option maxRecDepth 100000 in
theorem iX8_sortsIn : Cond.instanceMethod yX8_sortsIn ∈ q_tb := q_mt_4 207 rfl rfl
set_option maxRecDepth 100000 in
theorem eX8_sortsIn : Cond.selects (yX8_sortsIn).cls yX8_sortsIn yX8_sortsIn ∈ q_tb := q_ms 25 rfl rfl
set_option maxRecDepth 100000 in
theorem lRX8_81 : Cond.methodLinkNest RX8 81 yX11_isSort "GrammarTools" ∈ q_nt := q_mn4 209 rfl rfl
set_option maxRecDepth 100000 in
theorem gRX9_39 : q_gf RX9 39 9 1 := ⟨_, _, _, rfl, by decide, q_inT9, q_mt_1 37 rfl rfl⟩
set_option maxRecDepth 100000 in
theorem pRX9_39 : q_pf RX9 39 9 1 .int := ⟨_, _, _, tyX9, rfl, by decide, q_inT9, q_mt_1 37 rfl rfl, tyX9_ok, nmX9, rfl, tyX9_ok 1 (by decide)⟩
set_option maxRecDepth 100000 in
theorem gRX9_43 : q_gf RX9 43 9 2 := ⟨_, _, _, rfl, by decide, q_inT9, q_mt_1 42 rfl rfl⟩
set_option maxRecDepth 100000 in
theorem pRX9_43 : q_pf RX9 43 9 2 .int := ⟨_, _, _, tyX9, rfl, by decide, q_inT9, q_mt_1 42 rfl rfl, tyX9_ok, nmX9, rfl, tyX9_ok 2 (by decide)⟩
set_option maxRecDepth 100000 in
theorem gRX9_46 : q_gf RX9 46 9 3 := ⟨_, _, _, rfl, by decide, q_inT9, q_mt_1 45 rfl rfl⟩
set_option maxRecDepth 100000 in
theorem pRX9_46 : q_pf RX9 46 9 3 .int := ⟨_, _, _, tyX9, rfl, by decide, q_inT9, q_mt_1 45 rfl rfl, tyX9_ok, nmX9, rfl, tyX9_ok 3 (by decide)⟩
set_option maxRecDepth 100000 in
theorem gRX9_9 : q_gf RX9 9 9 5 := ⟨_, _, _, rfl, by decide, q_inT9, q_mt_1 54 rfl rfl⟩
set_option maxRecDepth 100000 in
theorem mX9_addRange : q_mt yX9_addRange cX9_addRange 6 (some .boolean) 3 := ⟨q_mt_5 218 rfl rfl, q_mt_1 2 rfl rfl, ⟨q_ncRX9.1, q_ncRX9.2.1, by decide +kernel⟩, by decide⟩
set_option maxRecDepth 100000 in
theorem gRX9_15 : q_gf RX9 15 9 6 := ⟨_, _, _, rfl, by decide, q_inT9, q_mt_1 62 rfl rfl⟩
set_option maxRecDepth 100000 in
theorem lRX9_49 : Cond.methodLink RX9 49 yX9_addRange ∈ q_tb := q_mt_5 215 rfl rfl
set_option maxRecDepth 100000 in
theorem iX9_addRange : Cond.instanceMethod yX9_addRange ∈ q_tb := q_mt_5 216 rfl rfl
set_option maxRecDepth 100000 in
theorem eX9_addRange : Cond.selects (yX9_addRange).cls yX9_addRange yX9_addRange ∈ q_tb := q_mt_5 217 rfl rfl
set_option maxRecDepth 100000 in
theorem lRX9_53 : Cond.methodLink RX9 53 yX9_isNodeAt ∈ q_tb := q_mt_4 174 rfl rfl
set_option maxRecDepth 100000 in
theorem lRX9_57 : Cond.methodLink RX9 57 arraycopyName ∈ q_tb := q_mt_4 187 rfl rfl
set_option maxRecDepth 100000 in
theorem gRX9_63 : q_gf RX9 63 9 4 := ⟨_, _, _, rfl, by decide, q_inT9, q_mt_1 52 rfl rfl⟩
set_option maxRecDepth 100000 in
theorem pRX9_63 : q_pf RX9 63 9 4 .int := ⟨_, _, _, tyX9, rfl, by decide, q_inT9, q_mt_1 52 rfl rfl, tyX9_ok, nmX9, rfl, tyX9_ok 4 (by decide)⟩
set_option maxRecDepth 100000 in
theorem gRX9_18 : q_gf RX9 18 9 7 := ⟨_, _, _, rfl, by decide, q_inT9, q_mt_1 67 rfl rfl⟩
set_option maxRecDepth 100000 in
theorem gRX9_21 : q_gf RX9 21 9 8 := ⟨_, _, _, rfl, by decide, q_inT9, q_mt_1 71 rfl rfl⟩
set_option maxRecDepth 100000 in
theorem gRX9_24 : q_gf RX9 24 9 9 := ⟨_, _, _, rfl, by decide, q_inT9, q_mt_1 74 rfl rfl⟩
set_option maxRecDepth 100000 in
theorem gRX9_30 : q_gf RX9 30 9 11 := ⟨_, _, _, rfl, by decide, q_inT9, q_mt_1 78 rfl rfl⟩
set_option maxRecDepth 100000 in
theorem gRX9_27 : q_gf RX9 27 9 10 := ⟨_, _, _, rfl, by decide, q_inT9, q_mt_1 75 rfl rfl⟩
set_option maxRecDepth 100000 in
theorem gRX9_33 : q_gf RX9 33 9 12 := ⟨_, _, _, rfl, by decide, q_inT9, q_mt_1 83 rfl rfl⟩
set_option maxRecDepth 100000 in
theorem mX9_closeFull : q_mt yX9_closeFull cX9_closeFull 5 (some .int) 2 := ⟨q_mt_4 181 rfl rfl, q_mt_1 2 rfl rfl, ⟨q_ncRX9.1, q_ncRX9.2.1, by decide +kernel⟩, by decide⟩
set_option maxRecDepth 100000 in
theorem lRX9_66 : Cond.methodLink RX9 66 yX9_closeFull ∈ q_tb := q_mt_4 178 rfl rfl
set_option maxRecDepth 100000 in
theorem iX9_closeFull : Cond.instanceMethod yX9_closeFull ∈ q_tb := q_mt_4 180 rfl rfl
set_option maxRecDepth 100000 in
theorem eX9_closeFull : Cond.selects (yX9_closeFull).cls yX9_closeFull yX9_closeFull ∈ q_tb := q_ms 22 rfl rfl
set_option maxRecDepth 100000 in
theorem gRX9_70 : q_gf RX9 70 9 0 := ⟨_, _, _, rfl, by decide, q_inT9, q_mt_1 36 rfl rfl⟩
set_option maxRecDepth 100000 in
theorem pRX9_70 : q_pf RX9 70 9 0 .boolean := ⟨_, _, _, tyX9, rfl, by decide, q_inT9, q_mt_1 36 rfl rfl, tyX9_ok, nmX9, rfl, tyX9_ok 0 (by decide)⟩
set_option maxRecDepth 100000 in
theorem gRX9_36 : q_gf RX9 36 9 13 := ⟨_, _, _, rfl, by decide, q_inT9, q_mt_1 87 rfl rfl⟩
set_option maxRecDepth 100000 in
theorem lRX9_74 : Cond.methodLink RX9 74 yJ7_fill_53178 ∈ q_tb := q_mt_4 188 rfl rfl
set_option maxRecDepth 100000 in
theorem gRX3_30 : q_gf RX3 30 3 1 := ⟨_, _, _, rfl, by decide, q_inT3, q_mt_2 204 rfl rfl⟩
set_option maxRecDepth 100000 in
theorem pRX3_30 : q_pf RX3 30 3 1 (.object "GrammarTools$Telling") := ⟨_, _, _, tyX3, rfl, by decide, q_inT3, q_mt_2 204 rfl rfl, tyX3_ok, nmX3, rfl, tyX3_ok 1 (by decide)⟩
set_option maxRecDepth 100000 in
theorem gRX3_34 : q_gf RX3 34 3 0 := ⟨_, _, _, rfl, by decide, q_inT3, q_mt_2 203 rfl rfl⟩
set_option maxRecDepth 100000 in
theorem pRX3_34 : q_pf RX3 34 3 0 .int := ⟨_, _, _, tyX3, rfl, by decide, q_inT3, q_mt_2 203 rfl rfl, tyX3_ok, nmX3, rfl, tyX3_ok 0 (by decide)⟩
set_option maxRecDepth 100000 in
theorem gRX3_11 : q_gf RX3 11 3 2 := ⟨_, _, _, rfl, by decide, q_inT3, q_mt_2 205 rfl rfl⟩
set_option maxRecDepth 100000 in
theorem lRX3_38 : Cond.methodLink RX3 38 arraycopyName ∈ q_tb := q_mt_4 59 rfl rfl
set_option maxRecDepth 100000 in
theorem gRX3_15 : q_gf RX3 15 3 3 := ⟨_, _, _, rfl, by decide, q_inT3, q_mt_2 206 rfl rfl⟩
set_option maxRecDepth 100000 in
theorem mX3_spot : q_mt yX3_spot cX3_spot 3 (some .int) 3 := ⟨q_mt_4 68 rfl rfl, q_mt_1 11 rfl rfl, ⟨q_ncRX3.1, q_ncRX3.2.1, by decide +kernel⟩, by decide⟩
set_option maxRecDepth 100000 in
theorem lRX3_44 : Cond.methodLink RX3 44 yX3_spot ∈ q_tb := q_mt_4 66 rfl rfl
set_option maxRecDepth 100000 in
theorem sX3_spot : Cond.static yX3_spot ∈ q_tb := q_mt_4 67 rfl rfl
set_option maxRecDepth 100000 in
theorem mX3_waysOfSort : q_mt yX3_waysOfSort cX3_waysOfSort 6 (some .int) 3 := ⟨q_mt_4 72 rfl rfl, q_mt_1 11 rfl rfl, ⟨q_ncRX3.1, q_ncRX3.2.1, by decide +kernel⟩, by decide⟩
set_option maxRecDepth 100000 in
theorem lRX3_48 : Cond.methodLink RX3 48 yX3_waysOfSort ∈ q_tb := q_mt_4 69 rfl rfl
set_option maxRecDepth 100000 in
theorem iX3_waysOfSort : Cond.instanceMethod yX3_waysOfSort ∈ q_tb := q_mt_4 71 rfl rfl
set_option maxRecDepth 100000 in
theorem eX3_waysOfSort : Cond.selects (yX3_waysOfSort).cls yX3_waysOfSort yX3_waysOfSort ∈ q_tb := q_ms 7 rfl rfl
set_option maxRecDepth 100000 in
theorem mX3_countRests : q_mt yX3_countRests cX3_countRests 5 none 2 := ⟨q_mt_4 91 rfl rfl, q_mt_1 11 rfl rfl, ⟨q_ncRX3.1, q_ncRX3.2.1, by decide +kernel⟩, by decide⟩
set_option maxRecDepth 100000 in
theorem lRX3_51 : Cond.methodLink RX3 51 yX3_countRests ∈ q_tb := q_mt_4 88 rfl rfl
set_option maxRecDepth 100000 in
theorem iX3_countRests : Cond.instanceMethod yX3_countRests ∈ q_tb := q_mt_4 90 rfl rfl
set_option maxRecDepth 100000 in
theorem eX3_countRests : Cond.selects (yX3_countRests).cls yX3_countRests yX3_countRests ∈ q_tb := q_ms 10 rfl rfl
set_option maxRecDepth 100000 in
theorem gRX3_55 : q_gf RX3 55 8 1 := ⟨_, _, _, rfl, by decide, q_inT8, q_mt_2 102 rfl rfl⟩
set_option maxRecDepth 100000 in
theorem gRX3_60 : q_gf RX3 60 8 2 := ⟨_, _, _, rfl, by decide, q_inT8, q_mt_2 105 rfl rfl⟩
set_option maxRecDepth 100000 in
theorem mX3_waysFrom : q_mt yX3_waysFrom cX3_waysFrom 8 (some .int) 4 := ⟨q_mt_4 76 rfl rfl, q_mt_1 11 rfl rfl, ⟨q_ncRX3.1, q_ncRX3.2.1, by decide +kernel⟩, by decide⟩
set_option maxRecDepth 100000 in
theorem lRX3_63 : Cond.methodLink RX3 63 yX3_waysFrom ∈ q_tb := q_mt_4 73 rfl rfl
set_option maxRecDepth 100000 in
theorem iX3_waysFrom : Cond.instanceMethod yX3_waysFrom ∈ q_tb := q_mt_4 75 rfl rfl
set_option maxRecDepth 100000 in
theorem eX3_waysFrom : Cond.selects (yX3_waysFrom).cls yX3_waysFrom yX3_waysFrom ∈ q_tb := q_ms 8 rfl rfl
set_option maxRecDepth 100000 in
theorem lRX3_67 : Cond.methodLink RX3 67 yJ9_min_7cf53 ∈ q_tb := q_mt_4 85 rfl rfl
set_option maxRecDepth 100000 in
theorem gRX3_73 : q_gf RX3 73 8 3 := ⟨_, _, _, rfl, by decide, q_inT8, q_mt_2 112 rfl rfl⟩
set_option maxRecDepth 100000 in
theorem gRX3_18 : q_gf RX3 18 3 4 := ⟨_, _, _, rfl, by decide, q_inT3, q_mt_2 207 rfl rfl⟩
set_option maxRecDepth 100000 in
theorem gRX3_76 : q_gf RX3 76 8 4 := ⟨_, _, _, rfl, by decide, q_inT8, q_mt_2 117 rfl rfl⟩
set_option maxRecDepth 100000 in
theorem lRX3_79 : Cond.methodLinkNest RX3 79 yX11_isSort "GrammarTools" ∈ q_nt := q_mn4 77 rfl rfl
set_option maxRecDepth 100000 in
theorem mX11_suits : q_mt yX11_suits cX11_suits 2 (some .boolean) 2 := ⟨q_mt_4 80 rfl rfl, q_mt_1 1 rfl rfl, ⟨q_ncRX11.1, q_ncRX11.2.1, by decide +kernel⟩, by decide⟩
set_option maxRecDepth 100000 in
theorem lRX3_83 : Cond.methodLinkNest RX3 83 yX11_suits "GrammarTools" ∈ q_nt := q_mn4 78 rfl rfl
set_option maxRecDepth 100000 in
theorem sX11_suits : Cond.static yX11_suits ∈ q_tb := q_mt_4 79 rfl rfl
set_option maxRecDepth 100000 in
theorem mX3_waysBehind : q_mt yX3_waysBehind cX3_waysBehind 5 (some .int) 4 := ⟨q_mt_4 84 rfl rfl, q_mt_1 11 rfl rfl, ⟨q_ncRX3.1, q_ncRX3.2.1, by decide +kernel⟩, by decide⟩
set_option maxRecDepth 100000 in
theorem lRX3_87 : Cond.methodLink RX3 87 yX3_waysBehind ∈ q_tb := q_mt_4 81 rfl rfl
set_option maxRecDepth 100000 in
theorem iX3_waysBehind : Cond.instanceMethod yX3_waysBehind ∈ q_tb := q_mt_4 83 rfl rfl
set_option maxRecDepth 100000 in
theorem eX3_waysBehind : Cond.selects (yX3_waysBehind).cls yX3_waysBehind yX3_waysBehind ∈ q_tb := q_ms 9 rfl rfl
set_option maxRecDepth 100000 in
theorem mX3_findFits : q_mt yX3_findFits cX3_findFits 4 none 0 := ⟨q_mt_4 106 rfl rfl, q_mt_1 11 rfl rfl, ⟨q_ncRX3.1, q_ncRX3.2.1, by decide +kernel⟩, by decide⟩
set_option maxRecDepth 100000 in
theorem lRX3_90 : Cond.methodLink RX3 90 yX3_findFits ∈ q_tb := q_mt_4 103 rfl rfl
set_option maxRecDepth 100000 in
theorem iX3_findFits : Cond.instanceMethod yX3_findFits ∈ q_tb := q_mt_4 105 rfl rfl
set_option maxRecDepth 100000 in
theorem eX3_findFits : Cond.selects (yX3_findFits).cls yX3_findFits yX3_findFits ∈ q_tb := q_ms 11 rfl rfl
set_option maxRecDepth 100000 in
theorem mX3_settle : q_mt yX3_settle cX3_settle 6 none 2 := ⟨q_mt_4 113 rfl rfl, q_mt_1 11 rfl rfl, ⟨q_ncRX3.1, q_ncRX3.2.1, by decide +kernel⟩, by decide⟩
set_option maxRecDepth 100000 in
theorem lRX3_93 : Cond.methodLink RX3 93 yX3_settle ∈ q_tb := q_mt_4 110 rfl rfl
set_option maxRecDepth 100000 in
theorem iX3_settle : Cond.instanceMethod yX3_settle ∈ q_tb := q_mt_4 112 rfl rfl
set_option maxRecDepth 100000 in
theorem eX3_settle : Cond.selects (yX3_settle).cls yX3_settle yX3_settle ∈ q_tb := q_ms 12 rfl rfl
set_option maxRecDepth 100000 in
theorem gRX3_21 : q_gf RX3 21 3 5 := ⟨_, _, _, rfl, by decide, q_inT3, q_mt_2 208 rfl rfl⟩
set_option maxRecDepth 100000 in
theorem gRX3_27 : q_gf RX3 27 3 7 := ⟨_, _, _, rfl, by decide, q_inT3, q_mt_2 210 rfl rfl⟩
set_option maxRecDepth 100000 in
theorem mX11_itemOfRank : q_mt yX11_itemOfRank cX11_itemOfRank 1 (some .int) 1 := ⟨q_mt_4 109 rfl rfl, q_mt_1 1 rfl rfl, ⟨q_ncRX11.1, q_ncRX11.2.1, by decide +kernel⟩, by decide⟩
set_option maxRecDepth 100000 in
theorem lRX3_96 : Cond.methodLinkNest RX3 96 yX11_itemOfRank "GrammarTools" ∈ q_nt := q_mn4 107 rfl rfl
set_option maxRecDepth 100000 in
theorem sX11_itemOfRank : Cond.static yX11_itemOfRank ∈ q_tb := q_mt_4 108 rfl rfl
set_option maxRecDepth 100000 in
theorem kRX3_100 : Jvm.Cond.constant RX3 100 (16777216) ∈ q_tb := q_mt_4 114 rfl rfl
set_option maxRecDepth 100000 in
theorem gRX3_24 : q_gf RX3 24 3 6 := ⟨_, _, _, rfl, by decide, q_inT3, q_mt_2 209 rfl rfl⟩
set_option maxRecDepth 100000 in
theorem mX3_settleSort : q_mt yX3_settleSort cX3_settleSort 10 (some .boolean) 3 := ⟨q_mt_4 118 rfl rfl, q_mt_1 11 rfl rfl, ⟨q_ncRX3.1, q_ncRX3.2.1, by decide +kernel⟩, by decide⟩
set_option maxRecDepth 100000 in
theorem lRX3_101 : Cond.methodLink RX3 101 yX3_settleSort ∈ q_tb := q_mt_4 115 rfl rfl
set_option maxRecDepth 100000 in
theorem iX3_settleSort : Cond.instanceMethod yX3_settleSort ∈ q_tb := q_mt_4 117 rfl rfl
set_option maxRecDepth 100000 in
theorem eX3_settleSort : Cond.selects (yX3_settleSort).cls yX3_settleSort yX3_settleSort ∈ q_tb := q_ms 13 rfl rfl
set_option maxRecDepth 100000 in
theorem mX3_priceFrom : q_mt yX3_priceFrom cX3_priceFrom 8 (some .int) 4 := ⟨q_mt_4 122 rfl rfl, q_mt_1 11 rfl rfl, ⟨q_ncRX3.1, q_ncRX3.2.1, by decide +kernel⟩, by decide⟩
set_option maxRecDepth 100000 in
theorem lRX3_105 : Cond.methodLink RX3 105 yX3_priceFrom ∈ q_tb := q_mt_4 119 rfl rfl
set_option maxRecDepth 100000 in
theorem iX3_priceFrom : Cond.instanceMethod yX3_priceFrom ∈ q_tb := q_mt_4 121 rfl rfl
set_option maxRecDepth 100000 in
theorem eX3_priceFrom : Cond.selects (yX3_priceFrom).cls yX3_priceFrom yX3_priceFrom ∈ q_tb := q_ms 14 rfl rfl
set_option maxRecDepth 100000 in
theorem mX3_priceOfItem : q_mt yX3_priceOfItem cX3_priceOfItem 5 (some .int) 3 := ⟨q_mt_4 126 rfl rfl, q_mt_1 11 rfl rfl, ⟨q_ncRX3.1, q_ncRX3.2.1, by decide +kernel⟩, by decide⟩
set_option maxRecDepth 100000 in
theorem lRX3_108 : Cond.methodLink RX3 108 yX3_priceOfItem ∈ q_tb := q_mt_4 123 rfl rfl
set_option maxRecDepth 100000 in
theorem iX3_priceOfItem : Cond.instanceMethod yX3_priceOfItem ∈ q_tb := q_mt_4 125 rfl rfl
set_option maxRecDepth 100000 in
theorem eX3_priceOfItem : Cond.selects (yX3_priceOfItem).cls yX3_priceOfItem yX3_priceOfItem ∈ q_tb := q_ms 15 rfl rfl
set_option maxRecDepth 100000 in
theorem mX3_priceBehind : q_mt yX3_priceBehind cX3_priceBehind 5 (some .int) 4 := ⟨q_mt_4 136 rfl rfl, q_mt_1 11 rfl rfl, ⟨q_ncRX3.1, q_ncRX3.2.1, by decide +kernel⟩, by decide⟩
set_option maxRecDepth 100000 in
theorem lRX3_111 : Cond.methodLink RX3 111 yX3_priceBehind ∈ q_tb := q_mt_4 133 rfl rfl
set_option maxRecDepth 100000 in
theorem iX3_priceBehind : Cond.instanceMethod yX3_priceBehind ∈ q_tb := q_mt_4 135 rfl rfl
set_option maxRecDepth 100000 in
theorem eX3_priceBehind : Cond.selects (yX3_priceBehind).cls yX3_priceBehind yX3_priceBehind ∈ q_tb := q_ms 16 rfl rfl
set_option maxRecDepth 100000 in
theorem mX11_rankOfItem : q_mt yX11_rankOfItem cX11_rankOfItem 1 (some .int) 1 := ⟨q_mt_4 129 rfl rfl, q_mt_1 1 rfl rfl, ⟨q_ncRX11.1, q_ncRX11.2.1, by decide +kernel⟩, by decide⟩
set_option maxRecDepth 100000 in
theorem lRX3_114 : Cond.methodLinkNest RX3 114 yX11_rankOfItem "GrammarTools" ∈ q_nt := q_mn4 127 rfl rfl
set_option maxRecDepth 100000 in
theorem sX11_rankOfItem : Cond.static yX11_rankOfItem ∈ q_tb := q_mt_4 128 rfl rfl
set_option maxRecDepth 100000 in
theorem lRX3_117 : Cond.methodLink RX3 117 yJ9_max_7cf53 ∈ q_tb := q_mt_4 130 rfl rfl
set_option maxRecDepth 100000 in
theorem lRX3_120 : Cond.methodLink RX3 120 yX9_start ∈ q_tb := q_mt_4 145 rfl rfl
set_option maxRecDepth 100000 in
theorem mX3_grow : q_mt yX3_grow cX3_grow 11 (some .boolean) 5 := ⟨q_mt_4 152 rfl rfl, q_mt_1 11 rfl rfl, ⟨q_ncRX3.1, q_ncRX3.2.1, by decide +kernel⟩, by decide⟩
set_option maxRecDepth 100000 in
theorem lRX3_126 : Cond.methodLink RX3 126 yX3_grow ∈ q_tb := q_mt_4 149 rfl rfl
set_option maxRecDepth 100000 in
theorem iX3_grow : Cond.instanceMethod yX3_grow ∈ q_tb := q_mt_4 151 rfl rfl
set_option maxRecDepth 100000 in
theorem eX3_grow : Cond.selects (yX3_grow).cls yX3_grow yX3_grow ∈ q_tb := q_ms 18 rfl rfl
set_option maxRecDepth 100000 in
theorem gRX3_130 : q_gf RX3 130 8 5 := ⟨_, _, _, rfl, by decide, q_inT8, q_mt_2 122 rfl rfl⟩
set_option maxRecDepth 100000 in
theorem lRX3_133 : Cond.methodLink RX3 133 yX9_index ∈ q_tb := q_mt_4 170 rfl rfl
set_option maxRecDepth 100000 in
theorem mX3_firstForm : q_mt yX3_firstForm cX3_firstForm 6 (some .int) 3 := ⟨q_mt_4 156 rfl rfl, q_mt_1 11 rfl rfl, ⟨q_ncRX3.1, q_ncRX3.2.1, by decide +kernel⟩, by decide⟩
set_option maxRecDepth 100000 in
theorem lRX3_137 : Cond.methodLink RX3 137 yX3_firstForm ∈ q_tb := q_mt_4 153 rfl rfl
set_option maxRecDepth 100000 in
theorem iX3_firstForm : Cond.instanceMethod yX3_firstForm ∈ q_tb := q_mt_4 155 rfl rfl
set_option maxRecDepth 100000 in
theorem eX3_firstForm : Cond.selects (yX3_firstForm).cls yX3_firstForm yX3_firstForm ∈ q_tb := q_ms 19 rfl rfl
set_option maxRecDepth 100000 in
theorem lRX3_140 : Cond.methodLink RX3 140 yX9_add ∈ q_tb := q_mt_4 157 rfl rfl
set_option maxRecDepth 100000 in
theorem mX3_firstCut : q_mt yX3_firstCut cX3_firstCut 8 (some .int) 4 := ⟨q_mt_4 164 rfl rfl, q_mt_1 11 rfl rfl, ⟨q_ncRX3.1, q_ncRX3.2.1, by decide +kernel⟩, by decide⟩
set_option maxRecDepth 100000 in
theorem lRX3_143 : Cond.methodLink RX3 143 yX3_firstCut ∈ q_tb := q_mt_4 161 rfl rfl
set_option maxRecDepth 100000 in
theorem iX3_firstCut : Cond.instanceMethod yX3_firstCut ∈ q_tb := q_mt_4 163 rfl rfl
set_option maxRecDepth 100000 in
theorem eX3_firstCut : Cond.selects (yX3_firstCut).cls yX3_firstCut yX3_firstCut ∈ q_tb := q_ms 20 rfl rfl
set_option maxRecDepth 100000 in
theorem mX3_growItem : q_mt yX3_growItem cX3_growItem 7 (some .boolean) 5 := ⟨q_mt_4 168 rfl rfl, q_mt_1 11 rfl rfl, ⟨q_ncRX3.1, q_ncRX3.2.1, by decide +kernel⟩, by decide⟩
set_option maxRecDepth 100000 in
theorem lRX3_146 : Cond.methodLink RX3 146 yX3_growItem ∈ q_tb := q_mt_4 165 rfl rfl
set_option maxRecDepth 100000 in
theorem iX3_growItem : Cond.instanceMethod yX3_growItem ∈ q_tb := q_mt_4 167 rfl rfl
set_option maxRecDepth 100000 in
theorem eX3_growItem : Cond.selects (yX3_growItem).cls yX3_growItem yX3_growItem ∈ q_tb := q_ms 21 rfl rfl
set_option maxRecDepth 100000 in
theorem lRX3_149 : Cond.methodLinkNest RX3 149 yX11_isWord "GrammarTools" ∈ q_nt := q_mn4 169 rfl rfl
set_option maxRecDepth 100000 in
theorem gRX4_27 : q_gf RX4 27 4 2 := ⟨_, _, _, rfl, by decide, q_inT4, q_mt_1 131 rfl rfl⟩
set_option maxRecDepth 100000 in
theorem pRX4_27 : q_pf RX4 27 4 2 .boolean := ⟨_, _, _, tyX4, rfl, by decide, q_inT4, q_mt_1 131 rfl rfl, tyX4_ok, nmX4, rfl, tyX4_ok 2 (by decide)⟩
set_option maxRecDepth 100000 in
theorem mX4_gatherSort : q_mt yX4_gatherSort cX4_gatherSort 6 none 3 := ⟨q_mt_4 225 rfl rfl, q_mt_1 3 rfl rfl, ⟨q_ncRX4.1, q_ncRX4.2.1, by decide +kernel⟩, by decide⟩
set_option maxRecDepth 100000 in
theorem lRX4_31 : Cond.methodLink RX4 31 yX4_gatherSort ∈ q_tb := q_mt_4 222 rfl rfl
set_option maxRecDepth 100000 in
theorem iX4_gatherSort : Cond.instanceMethod yX4_gatherSort ∈ q_tb := q_mt_4 224 rfl rfl
set_option maxRecDepth 100000 in
theorem eX4_gatherSort : Cond.selects (yX4_gatherSort).cls yX4_gatherSort yX4_gatherSort ∈ q_tb := q_ms 27 rfl rfl
set_option maxRecDepth 100000 in
theorem gRX4_18 : q_gf RX4 18 4 5 := ⟨_, _, _, rfl, by decide, q_inT4, q_mt_1 134 rfl rfl⟩
set_option maxRecDepth 100000 in
theorem mX4_shelf : q_mt yX4_shelf cX4_shelf 2 (some .int) 2 := ⟨q_mt_4 228 rfl rfl, q_mt_1 3 rfl rfl, ⟨q_ncRX4.1, q_ncRX4.2.1, by decide +kernel⟩, by decide⟩
set_option maxRecDepth 100000 in
theorem lRX4_35 : Cond.methodLink RX4 35 yX4_shelf ∈ q_tb := q_mt_4 226 rfl rfl
set_option maxRecDepth 100000 in
theorem sX4_shelf : Cond.static yX4_shelf ∈ q_tb := q_mt_4 227 rfl rfl
set_option maxRecDepth 100000 in
theorem gRX4_39 : q_gf RX4 39 4 0 := ⟨_, _, _, rfl, by decide, q_inT4, q_mt_1 128 rfl rfl⟩
set_option maxRecDepth 100000 in
theorem pRX4_39 : q_pf RX4 39 4 0 .int := ⟨_, _, _, tyX4, rfl, by decide, q_inT4, q_mt_1 128 rfl rfl, tyX4_ok, nmX4, rfl, tyX4_ok 0 (by decide)⟩
set_option maxRecDepth 100000 in
theorem gRX4_43 : q_gf RX4 43 4 1 := ⟨_, _, _, rfl, by decide, q_inT4, q_mt_1 130 rfl rfl⟩
set_option maxRecDepth 100000 in
theorem pRX4_43 : q_pf RX4 43 4 1 .int := ⟨_, _, _, tyX4, rfl, by decide, q_inT4, q_mt_1 130 rfl rfl, tyX4_ok, nmX4, rfl, tyX4_ok 1 (by decide)⟩
set_option maxRecDepth 100000 in
theorem gRX4_15 : q_gf RX4 15 4 4 := ⟨_, _, _, rfl, by decide, q_inT4, q_mt_1 133 rfl rfl⟩
set_option maxRecDepth 100000 in
theorem gRX4_11 : q_gf RX4 11 4 3 := ⟨_, _, _, rfl, by decide, q_inT4, q_mt_1 132 rfl rfl⟩
set_option maxRecDepth 100000 in
theorem lRX4_46 : Cond.methodLinkNest RX4 46 yX11_within "GrammarTools" ∈ q_nt := q_mn5 32 rfl rfl
set_option maxRecDepth 100000 in
theorem lRX4_50 : Cond.methodLinkNest RX4 50 yX11_itemOfRank "GrammarTools" ∈ q_nt := q_mn5 33 rfl rfl
set_option maxRecDepth 100000 in
theorem gRX4_54 : q_gf RX4 54 8 1 := ⟨_, _, _, rfl, by decide, q_inT8, q_mt_2 103 rfl rfl⟩
set_option maxRecDepth 100000 in
theorem gRX4_59 : q_gf RX4 59 8 2 := ⟨_, _, _, rfl, by decide, q_inT8, q_mt_2 107 rfl rfl⟩
set_option maxRecDepth 100000 in
theorem mJ6_bitCount_0f7a4 : q_mt yJ6_bitCount_0f7a4 cJ6_bitCount_0f7a4 1 (some .int) 1 := ⟨q_mt_4 231 rfl rfl, q_mt_1 17 rfl rfl, ⟨q_ncRJ6.1, q_ncRJ6.2.1, by decide +kernel⟩, by decide⟩
set_option maxRecDepth 100000 in
theorem lRX4_62 : Cond.methodLink RX4 62 yJ6_bitCount_0f7a4 ∈ q_tb := q_mt_4 229 rfl rfl
set_option maxRecDepth 100000 in
theorem sJ6_bitCount_0f7a4 : Cond.static yJ6_bitCount_0f7a4 ∈ q_tb := q_mt_4 230 rfl rfl
set_option maxRecDepth 100000 in
theorem gRX4_67 : q_gf RX4 67 8 3 := ⟨_, _, _, rfl, by decide, q_inT8, q_mt_2 113 rfl rfl⟩
set_option maxRecDepth 100000 in
theorem mX4_combine : q_mt yX4_combine cX4_combine 9 none 4 := ⟨q_mt_4 238 rfl rfl, q_mt_1 3 rfl rfl, ⟨q_ncRX4.1, q_ncRX4.2.1, by decide +kernel⟩, by decide⟩
set_option maxRecDepth 100000 in
theorem lRX4_70 : Cond.methodLink RX4 70 yX4_combine ∈ q_tb := q_mt_4 235 rfl rfl
set_option maxRecDepth 100000 in
theorem iX4_combine : Cond.instanceMethod yX4_combine ∈ q_tb := q_mt_4 237 rfl rfl
set_option maxRecDepth 100000 in
theorem eX4_combine : Cond.selects (yX4_combine).cls yX4_combine yX4_combine ∈ q_tb := q_ms 28 rfl rfl
set_option maxRecDepth 100000 in
theorem gRX4_21 : q_gf RX4 21 4 6 := ⟨_, _, _, rfl, by decide, q_inT4, q_mt_1 135 rfl rfl⟩
set_option maxRecDepth 100000 in
theorem gRX4_24 : q_gf RX4 24 4 7 := ⟨_, _, _, rfl, by decide, q_inT4, q_mt_1 136 rfl rfl⟩
set_option maxRecDepth 100000 in
theorem mX4_rowsOfPart : q_mt yX4_rowsOfPart cX4_rowsOfPart 3 (some .int) 2 := ⟨q_mt_5 2 rfl rfl, q_mt_1 3 rfl rfl, ⟨q_ncRX4.1, q_ncRX4.2.1, by decide +kernel⟩, by decide⟩
set_option maxRecDepth 100000 in
theorem gRX4_74 : q_gf RX4 74 8 4 := ⟨_, _, _, rfl, by decide, q_inT8, q_mt_2 118 rfl rfl⟩
set_option maxRecDepth 100000 in
theorem lRX4_77 : Cond.methodLink RX4 77 yX4_rowsOfPart ∈ q_tb := q_mt_4 239 rfl rfl
set_option maxRecDepth 100000 in
theorem iX4_rowsOfPart : Cond.instanceMethod yX4_rowsOfPart ∈ q_tb := q_mt_5 1 rfl rfl
set_option maxRecDepth 100000 in
theorem eX4_rowsOfPart : Cond.selects (yX4_rowsOfPart).cls yX4_rowsOfPart yX4_rowsOfPart ∈ q_tb := q_ms 29 rfl rfl
set_option maxRecDepth 100000 in
theorem lRX4_80 : Cond.methodLink RX4 80 yJ9_min_7cf53 ∈ q_tb := q_mt_5 4 rfl rfl
set_option maxRecDepth 100000 in
theorem mX4_addChoice : q_mt yX4_addChoice cX4_addChoice 12 none 4 := ⟨q_mt_5 8 rfl rfl, q_mt_1 3 rfl rfl, ⟨q_ncRX4.1, q_ncRX4.2.1, by decide +kernel⟩, by decide⟩
set_option maxRecDepth 100000 in
theorem lRX4_85 : Cond.methodLink RX4 85 yX4_addChoice ∈ q_tb := q_mt_5 5 rfl rfl
set_option maxRecDepth 100000 in
theorem iX4_addChoice : Cond.instanceMethod yX4_addChoice ∈ q_tb := q_mt_5 7 rfl rfl
set_option maxRecDepth 100000 in
theorem eX4_addChoice : Cond.selects (yX4_addChoice).cls yX4_addChoice yX4_addChoice ∈ q_tb := q_ms 30 rfl rfl
set_option maxRecDepth 100000 in
theorem lRX4_88 : Cond.methodLinkNest RX4 88 yX11_isSort "GrammarTools" ∈ q_nt := q_mn5 3 rfl rfl
set_option maxRecDepth 100000 in
theorem lRX4_92 : Cond.methodLinkNest RX4 92 yX11_rankOfItem "GrammarTools" ∈ q_nt := q_mn5 9 rfl rfl
set_option maxRecDepth 100000 in
theorem mX4_insert : q_mt yX4_insert cX4_insert 7 none 3 := ⟨q_mt_5 13 rfl rfl, q_mt_1 3 rfl rfl, ⟨q_ncRX4.1, q_ncRX4.2.1, by decide +kernel⟩, by decide⟩
set_option maxRecDepth 100000 in
theorem lRX4_95 : Cond.methodLink RX4 95 yX4_insert ∈ q_tb := q_mt_5 10 rfl rfl
set_option maxRecDepth 100000 in
theorem iX4_insert : Cond.instanceMethod yX4_insert ∈ q_tb := q_mt_5 12 rfl rfl
set_option maxRecDepth 100000 in
theorem eX4_insert : Cond.selects (yX4_insert).cls yX4_insert yX4_insert ∈ q_tb := q_ms 31 rfl rfl
set_option maxRecDepth 100000 in
theorem lRX4_99 : Cond.methodLink RX4 99 arraycopyName ∈ q_tb := q_mt_5 14 rfl rfl
set_option maxRecDepth 100000 in
theorem gRX6_34 : q_gf RX6 34 6 1 := ⟨_, _, _, rfl, by decide, q_inT6, q_mt_2 236 rfl rfl⟩
set_option maxRecDepth 100000 in
theorem lRX6_38 : Cond.methodLinkNest RX6 38 yX11_within "GrammarTools" ∈ q_nt := q_mn5 114 rfl rfl
set_option maxRecDepth 100000 in
theorem gRX6_9 : q_gf RX6 9 6 0 := ⟨_, _, _, rfl, by decide, q_inT6, q_mt_2 234 rfl rfl⟩
set_option maxRecDepth 100000 in
theorem gRX6_30 : q_gf RX6 30 6 8 := ⟨_, _, _, rfl, by decide, q_inT6, q_mt_3 10 rfl rfl⟩
set_option maxRecDepth 100000 in
theorem pRX6_30 : q_pf RX6 30 6 8 (.object "GrammarTools$Telling") := ⟨_, _, _, tyX6, rfl, by decide, q_inT6, q_mt_3 10 rfl rfl, tyX6_ok, nmX6, rfl, tyX6_ok 8 (by decide)⟩
set_option maxRecDepth 100000 in
theorem pRX6_34 : q_pf RX6 34 6 1 .int := ⟨_, _, _, tyX6, rfl, by decide, q_inT6, q_mt_2 236 rfl rfl, tyX6_ok, nmX6, rfl, tyX6_ok 1 (by decide)⟩
set_option maxRecDepth 100000 in
theorem gRX6_42 : q_gf RX6 42 6 12 := ⟨_, _, _, rfl, by decide, q_inT6, q_mt_3 14 rfl rfl⟩
set_option maxRecDepth 100000 in
theorem pRX6_42 : q_pf RX6 42 6 12 .int := ⟨_, _, _, tyX6, rfl, by decide, q_inT6, q_mt_3 14 rfl rfl, tyX6_ok, nmX6, rfl, tyX6_ok 12 (by decide)⟩
set_option maxRecDepth 100000 in
theorem gRX6_45 : q_gf RX6 45 6 13 := ⟨_, _, _, rfl, by decide, q_inT6, q_mt_3 15 rfl rfl⟩
set_option maxRecDepth 100000 in
theorem pRX6_45 : q_pf RX6 45 6 13 .int := ⟨_, _, _, tyX6, rfl, by decide, q_inT6, q_mt_3 15 rfl rfl, tyX6_ok, nmX6, rfl, tyX6_ok 13 (by decide)⟩
set_option maxRecDepth 100000 in
theorem gRX6_48 : q_gf RX6 48 6 14 := ⟨_, _, _, rfl, by decide, q_inT6, q_mt_3 16 rfl rfl⟩
set_option maxRecDepth 100000 in
theorem pRX6_48 : q_pf RX6 48 6 14 .int := ⟨_, _, _, tyX6, rfl, by decide, q_inT6, q_mt_3 16 rfl rfl, tyX6_ok, nmX6, rfl, tyX6_ok 14 (by decide)⟩
set_option maxRecDepth 100000 in
theorem gRX6_51 : q_gf RX6 51 6 15 := ⟨_, _, _, rfl, by decide, q_inT6, q_mt_3 17 rfl rfl⟩
set_option maxRecDepth 100000 in
theorem pRX6_51 : q_pf RX6 51 6 15 .int := ⟨_, _, _, tyX6, rfl, by decide, q_inT6, q_mt_3 17 rfl rfl, tyX6_ok, nmX6, rfl, tyX6_ok 15 (by decide)⟩
set_option maxRecDepth 100000 in
theorem gRX6_54 : q_gf RX6 54 6 16 := ⟨_, _, _, rfl, by decide, q_inT6, q_mt_3 18 rfl rfl⟩
set_option maxRecDepth 100000 in
theorem pRX6_54 : q_pf RX6 54 6 16 .int := ⟨_, _, _, tyX6, rfl, by decide, q_inT6, q_mt_3 18 rfl rfl, tyX6_ok, nmX6, rfl, tyX6_ok 16 (by decide)⟩
set_option maxRecDepth 100000 in
theorem gRX6_57 : q_gf RX6 57 6 17 := ⟨_, _, _, rfl, by decide, q_inT6, q_mt_3 19 rfl rfl⟩
set_option maxRecDepth 100000 in
theorem pRX6_57 : q_pf RX6 57 6 17 .int := ⟨_, _, _, tyX6, rfl, by decide, q_inT6, q_mt_3 19 rfl rfl, tyX6_ok, nmX6, rfl, tyX6_ok 17 (by decide)⟩
set_option maxRecDepth 100000 in
theorem mX6_emit : q_mt yX6_emit cX6_emit 11 none 4 := ⟨q_mt_5 62 rfl rfl, q_mt_1 12 rfl rfl, ⟨q_ncRX6.1, q_ncRX6.2.1, by decide +kernel⟩, by decide⟩
set_option maxRecDepth 100000 in
theorem lRX6_60 : Cond.methodLink RX6 60 yX6_emit ∈ q_tb := q_mt_5 59 rfl rfl
set_option maxRecDepth 100000 in
theorem iX6_emit : Cond.instanceMethod yX6_emit ∈ q_tb := q_mt_5 61 rfl rfl
set_option maxRecDepth 100000 in
theorem eX6_emit : Cond.selects (yX6_emit).cls yX6_emit yX6_emit ∈ q_tb := q_ms 34 rfl rfl
set_option maxRecDepth 100000 in
theorem lRX6_64 : Cond.methodLink RX6 64 yX9_isNodeAt ∈ q_tb := q_mt_5 63 rfl rfl
set_option maxRecDepth 100000 in
theorem mX6_emitCode : q_mt yX6_emitCode cX6_emitCode 2 none 1 := ⟨q_mt_5 67 rfl rfl, q_mt_1 12 rfl rfl, ⟨q_ncRX6.1, q_ncRX6.2.1, by decide +kernel⟩, by decide⟩
set_option maxRecDepth 100000 in
theorem gRX6_70 : q_gf RX6 70 9 5 := ⟨_, _, _, rfl, by decide, q_inT9, q_mt_1 58 rfl rfl⟩
set_option maxRecDepth 100000 in
theorem lRX6_73 : Cond.methodLink RX6 73 yX6_emitCode ∈ q_tb := q_mt_5 64 rfl rfl
set_option maxRecDepth 100000 in
theorem iX6_emitCode : Cond.instanceMethod yX6_emitCode ∈ q_tb := q_mt_5 66 rfl rfl
set_option maxRecDepth 100000 in
theorem eX6_emitCode : Cond.selects (yX6_emitCode).cls yX6_emitCode yX6_emitCode ∈ q_tb := q_ms 35 rfl rfl
set_option maxRecDepth 100000 in
theorem mX6_countSoft : q_mt yX6_countSoft cX6_countSoft 4 (some .int) 2 := ⟨q_mt_5 71 rfl rfl, q_mt_1 12 rfl rfl, ⟨q_ncRX6.1, q_ncRX6.2.1, by decide +kernel⟩, by decide⟩
set_option maxRecDepth 100000 in
theorem lRX6_77 : Cond.methodLink RX6 77 yX6_countSoft ∈ q_tb := q_mt_5 68 rfl rfl
set_option maxRecDepth 100000 in
theorem iX6_countSoft : Cond.instanceMethod yX6_countSoft ∈ q_tb := q_mt_5 70 rfl rfl
set_option maxRecDepth 100000 in
theorem eX6_countSoft : Cond.selects (yX6_countSoft).cls yX6_countSoft yX6_countSoft ∈ q_tb := q_ms 36 rfl rfl
set_option maxRecDepth 100000 in
theorem gRX6_81 : q_gf RX6 81 8 3 := ⟨_, _, _, rfl, by decide, q_inT8, q_mt_2 110 rfl rfl⟩
set_option maxRecDepth 100000 in
theorem gRX6_86 : q_gf RX6 86 8 4 := ⟨_, _, _, rfl, by decide, q_inT8, q_mt_2 115 rfl rfl⟩
set_option maxRecDepth 100000 in
theorem lRX6_89 : Cond.methodLinkNest RX6 89 yX11_isWord "GrammarTools" ∈ q_nt := q_mn5 76 rfl rfl
set_option maxRecDepth 100000 in
theorem gRX6_92 : q_gf RX6 92 9 6 := ⟨_, _, _, rfl, by decide, q_inT9, q_mt_1 64 rfl rfl⟩
set_option maxRecDepth 100000 in
theorem gRX6_95 : q_gf RX6 95 8 7 := ⟨_, _, _, rfl, by decide, q_inT8, q_mt_2 127 rfl rfl⟩
set_option maxRecDepth 100000 in
theorem mX8_hasSoftGap : q_mt yX8_hasSoftGap cX8_hasSoftGap 3 (some .boolean) 1 := ⟨q_mt_5 75 rfl rfl, q_mt_1 8 rfl rfl, ⟨q_ncRX8.1, q_ncRX8.2.1, by decide +kernel⟩, by decide⟩
set_option maxRecDepth 100000 in
theorem lRX6_98 : Cond.methodLink RX6 98 yX8_hasSoftGap ∈ q_tb := q_mt_5 72 rfl rfl
set_option maxRecDepth 100000 in
theorem iX8_hasSoftGap : Cond.instanceMethod yX8_hasSoftGap ∈ q_tb := q_mt_5 73 rfl rfl
set_option maxRecDepth 100000 in
theorem eX8_hasSoftGap : Cond.selects (yX8_hasSoftGap).cls yX8_hasSoftGap yX8_hasSoftGap ∈ q_tb := q_mt_5 74 rfl rfl
set_option maxRecDepth 100000 in
theorem gRX6_101 : q_gf RX6 101 9 13 := ⟨_, _, _, rfl, by decide, q_inT9, q_mt_1 88 rfl rfl⟩
set_option maxRecDepth 100000 in
theorem gRX6_104 : q_gf RX6 104 9 10 := ⟨_, _, _, rfl, by decide, q_inT9, q_mt_1 76 rfl rfl⟩
set_option maxRecDepth 100000 in
theorem gRX6_21 : q_gf RX6 21 6 9 := ⟨_, _, _, rfl, by decide, q_inT6, q_mt_3 11 rfl rfl⟩
set_option maxRecDepth 100000 in
theorem gRX6_24 : q_gf RX6 24 6 10 := ⟨_, _, _, rfl, by decide, q_inT6, q_mt_3 12 rfl rfl⟩
set_option maxRecDepth 100000 in
theorem gRX6_27 : q_gf RX6 27 6 11 := ⟨_, _, _, rfl, by decide, q_inT6, q_mt_3 13 rfl rfl⟩
set_option maxRecDepth 100000 in
theorem mX6_place : q_mt yX6_place cX6_place 7 none 2 := ⟨q_mt_5 153 rfl rfl, q_mt_1 12 rfl rfl, ⟨q_ncRX6.1, q_ncRX6.2.1, by decide +kernel⟩, by decide⟩
set_option maxRecDepth 100000 in
theorem lRX6_107 : Cond.methodLink RX6 107 yX6_place ∈ q_tb := q_mt_5 150 rfl rfl
set_option maxRecDepth 100000 in
theorem iX6_place : Cond.instanceMethod yX6_place ∈ q_tb := q_mt_5 152 rfl rfl
set_option maxRecDepth 100000 in
theorem eX6_place : Cond.selects (yX6_place).cls yX6_place yX6_place ∈ q_tb := q_ms 39 rfl rfl
set_option maxRecDepth 100000 in
theorem lRX6_111 : Cond.methodLink RX6 111 yJ6_bitCount_0f7a4 ∈ q_tb := q_mt_5 155 rfl rfl
set_option maxRecDepth 100000 in
theorem gRX6_117 : q_gf RX6 117 6 6 := ⟨_, _, _, rfl, by decide, q_inT6, q_mt_3 6 rfl rfl⟩
set_option maxRecDepth 100000 in
theorem gRX6_120 : q_gf RX6 120 6 7 := ⟨_, _, _, rfl, by decide, q_inT6, q_mt_3 8 rfl rfl⟩
set_option maxRecDepth 100000 in
theorem pRX6_120 : q_pf RX6 120 6 7 .int := ⟨_, _, _, tyX6, rfl, by decide, q_inT6, q_mt_3 8 rfl rfl, tyX6_ok, nmX6, rfl, tyX6_ok 7 (by decide)⟩
set_option maxRecDepth 100000 in
theorem gRX6_123 : q_gf RX6 123 6 4 := ⟨_, _, _, rfl, by decide, q_inT6, q_mt_3 2 rfl rfl⟩
set_option maxRecDepth 100000 in
theorem pRX6_123 : q_pf RX6 123 6 4 .int := ⟨_, _, _, tyX6, rfl, by decide, q_inT6, q_mt_3 2 rfl rfl, tyX6_ok, nmX6, rfl, tyX6_ok 4 (by decide)⟩
set_option maxRecDepth 100000 in
theorem gRX6_126 : q_gf RX6 126 6 5 := ⟨_, _, _, rfl, by decide, q_inT6, q_mt_3 4 rfl rfl⟩
set_option maxRecDepth 100000 in
theorem pRX6_126 : q_pf RX6 126 6 5 .int := ⟨_, _, _, tyX6, rfl, by decide, q_inT6, q_mt_3 4 rfl rfl, tyX6_ok, nmX6, rfl, tyX6_ok 5 (by decide)⟩
set_option maxRecDepth 100000 in
theorem lRX6_129 : Cond.methodLink RX6 129 yJ9_max_7cf53 ∈ q_tb := q_mt_5 154 rfl rfl
set_option maxRecDepth 100000 in
theorem gRX6_15 : q_gf RX6 15 6 2 := ⟨_, _, _, rfl, by decide, q_inT6, q_mt_2 238 rfl rfl⟩
set_option maxRecDepth 100000 in
theorem gRX6_18 : q_gf RX6 18 6 3 := ⟨_, _, _, rfl, by decide, q_inT6, q_mt_3 0 rfl rfl⟩
set_option maxRecDepth 100000 in
theorem mX6_lengthOf : q_mt yX6_lengthOf cX6_lengthOf 2 (some .int) 1 := ⟨q_mt_5 159 rfl rfl, q_mt_1 12 rfl rfl, ⟨q_ncRX6.1, q_ncRX6.2.1, by decide +kernel⟩, by decide⟩
set_option maxRecDepth 100000 in
theorem lRX6_135 : Cond.methodLink RX6 135 yX6_lengthOf ∈ q_tb := q_mt_5 156 rfl rfl
set_option maxRecDepth 100000 in
theorem iX6_lengthOf : Cond.instanceMethod yX6_lengthOf ∈ q_tb := q_mt_5 158 rfl rfl
set_option maxRecDepth 100000 in
theorem eX6_lengthOf : Cond.selects (yX6_lengthOf).cls yX6_lengthOf yX6_lengthOf ∈ q_tb := q_ms 40 rfl rfl
set_option maxRecDepth 100000 in
theorem pRX6_117 : q_pf RX6 117 6 6 .int := ⟨_, _, _, tyX6, rfl, by decide, q_inT6, q_mt_3 6 rfl rfl, tyX6_ok, nmX6, rfl, tyX6_ok 6 (by decide)⟩
set_option maxRecDepth 100000 in
theorem gRX6_138 : q_gf RX6 138 8 0 := ⟨_, _, _, rfl, by decide, q_inT8, q_mt_2 99 rfl rfl⟩
set_option maxRecDepth 100000 in
theorem lRX6_141 : Cond.methodLinkNest RX6 141 yX11_isNumber "GrammarTools" ∈ q_nt := q_mn5 160 rfl rfl
set_option maxRecDepth 100000 in
theorem gRX1_37 : q_gf RX1 37 9 2 := ⟨_, _, _, rfl, by decide, q_inT9, q_mt_1 41 rfl rfl⟩
set_option maxRecDepth 100000 in
theorem lRX1_43 : Cond.methodLink RX1 43 yJ9_max_7cf53 ∈ q_tb := q_mt_5 173 rfl rfl
set_option maxRecDepth 100000 in
theorem mX1_lie : q_mt yX1_lie cX1_lie 8 none 3 := ⟨q_mt_5 177 rfl rfl, q_mt_1 4 rfl rfl, ⟨q_ncRX1.1, q_ncRX1.2.1, by decide +kernel⟩, by decide⟩
set_option maxRecDepth 100000 in
theorem lRX1_49 : Cond.methodLink RX1 49 yX1_lie ∈ q_tb := q_mt_5 174 rfl rfl
set_option maxRecDepth 100000 in
theorem iX1_lie : Cond.instanceMethod yX1_lie ∈ q_tb := q_mt_5 176 rfl rfl
set_option maxRecDepth 100000 in
theorem eX1_lie : Cond.selects (yX1_lie).cls yX1_lie yX1_lie ∈ q_tb := q_ms 41 rfl rfl
set_option maxRecDepth 100000 in
theorem mX1_work : q_mt yX1_work cX1_work 4 (some .int) 1 := ⟨q_mt_5 186 rfl rfl, q_mt_1 4 rfl rfl, ⟨q_ncRX1.1, q_ncRX1.2.1, by decide +kernel⟩, by decide⟩
set_option maxRecDepth 100000 in
theorem lRX1_53 : Cond.methodLink RX1 53 yX1_work ∈ q_tb := q_mt_5 183 rfl rfl
set_option maxRecDepth 100000 in
theorem iX1_work : Cond.instanceMethod yX1_work ∈ q_tb := q_mt_5 185 rfl rfl
set_option maxRecDepth 100000 in
theorem eX1_work : Cond.selects (yX1_work).cls yX1_work yX1_work ∈ q_tb := q_ms 43 rfl rfl
set_option maxRecDepth 100000 in
theorem gRX1_22 : q_gf RX1 22 1 6 := ⟨_, _, _, rfl, by decide, q_inT1, q_mt_1 173 rfl rfl⟩
set_option maxRecDepth 100000 in
theorem mX1_measurePieces : q_mt yX1_measurePieces cX1_measurePieces 10 none 3 := ⟨q_mt_5 190 rfl rfl, q_mt_1 4 rfl rfl, ⟨q_ncRX1.1, q_ncRX1.2.1, by decide +kernel⟩, by decide⟩
set_option maxRecDepth 100000 in
theorem gRX1_19 : q_gf RX1 19 1 5 := ⟨_, _, _, rfl, by decide, q_inT1, q_mt_1 172 rfl rfl⟩
set_option maxRecDepth 100000 in
theorem lRX1_57 : Cond.methodLink RX1 57 yX1_measurePieces ∈ q_tb := q_mt_5 187 rfl rfl
set_option maxRecDepth 100000 in
theorem iX1_measurePieces : Cond.instanceMethod yX1_measurePieces ∈ q_tb := q_mt_5 189 rfl rfl
set_option maxRecDepth 100000 in
theorem eX1_measurePieces : Cond.selects (yX1_measurePieces).cls yX1_measurePieces yX1_measurePieces ∈ q_tb := q_ms 44 rfl rfl
set_option maxRecDepth 100000 in
theorem gRX1_34 : q_gf RX1 34 1 9 := ⟨_, _, _, rfl, by decide, q_inT1, q_mt_1 176 rfl rfl⟩
set_option maxRecDepth 100000 in
theorem gRX1_26 : q_gf RX1 26 1 7 := ⟨_, _, _, rfl, by decide, q_inT1, q_mt_1 174 rfl rfl⟩
set_option maxRecDepth 100000 in
theorem gRX1_61 : q_gf RX1 61 9 7 := ⟨_, _, _, rfl, by decide, q_inT9, q_mt_1 68 rfl rfl⟩
set_option maxRecDepth 100000 in
theorem gRX1_64 : q_gf RX1 64 9 6 := ⟨_, _, _, rfl, by decide, q_inT9, q_mt_1 63 rfl rfl⟩
set_option maxRecDepth 100000 in
theorem lRX1_66 : Cond.methodLink RX1 66 yX9_isNodeAt ∈ q_tb := q_mt_5 178 rfl rfl
set_option maxRecDepth 100000 in
theorem gRX1_70 : q_gf RX1 70 9 1 := ⟨_, _, _, rfl, by decide, q_inT9, q_mt_1 38 rfl rfl⟩
set_option maxRecDepth 100000 in
theorem gRX1_11 : q_gf RX1 11 1 3 := ⟨_, _, _, rfl, by decide, q_inT1, q_mt_1 170 rfl rfl⟩
set_option maxRecDepth 100000 in
theorem gRX1_73 : q_gf RX1 73 9 5 := ⟨_, _, _, rfl, by decide, q_inT9, q_mt_1 56 rfl rfl⟩
set_option maxRecDepth 100000 in
theorem gRX1_16 : q_gf RX1 16 1 4 := ⟨_, _, _, rfl, by decide, q_inT1, q_mt_1 171 rfl rfl⟩
set_option maxRecDepth 100000 in
theorem mX1_listKeys : q_mt yX1_listKeys cX1_listKeys 6 none 2 := ⟨q_mt_5 182 rfl rfl, q_mt_1 4 rfl rfl, ⟨q_ncRX1.1, q_ncRX1.2.1, by decide +kernel⟩, by decide⟩
set_option maxRecDepth 100000 in
theorem lRX1_76 : Cond.methodLink RX1 76 yX1_listKeys ∈ q_tb := q_mt_5 179 rfl rfl
set_option maxRecDepth 100000 in
theorem iX1_listKeys : Cond.instanceMethod yX1_listKeys ∈ q_tb := q_mt_5 181 rfl rfl
set_option maxRecDepth 100000 in
theorem eX1_listKeys : Cond.selects (yX1_listKeys).cls yX1_listKeys yX1_listKeys ∈ q_tb := q_ms 42 rfl rfl
set_option maxRecDepth 100000 in
theorem gRX1_30 : q_gf RX1 30 1 8 := ⟨_, _, _, rfl, by decide, q_inT1, q_mt_1 175 rfl rfl⟩
set_option maxRecDepth 100000 in
theorem lRX1_80 : Cond.methodLink RX1 80 yJ9_min_7cf53 ∈ q_tb := q_mt_5 191 rfl rfl
set_option maxRecDepth 100000 in
theorem gRX1_83 : q_gf RX1 83 1 0 := ⟨_, _, _, rfl, by decide, q_inT1, q_mt_1 164 rfl rfl⟩
set_option maxRecDepth 100000 in
theorem pRX1_83 : q_pf RX1 83 1 0 .int := ⟨_, _, _, tyX1, rfl, by decide, q_inT1, q_mt_1 164 rfl rfl, tyX1_ok, nmX1, rfl, tyX1_ok 0 (by decide)⟩
set_option maxRecDepth 100000 in
theorem gRX1_86 : q_gf RX1 86 1 1 := ⟨_, _, _, rfl, by decide, q_inT1, q_mt_1 166 rfl rfl⟩
set_option maxRecDepth 100000 in
theorem pRX1_86 : q_pf RX1 86 1 1 .int := ⟨_, _, _, tyX1, rfl, by decide, q_inT1, q_mt_1 166 rfl rfl, tyX1_ok, nmX1, rfl, tyX1_ok 1 (by decide)⟩
set_option maxRecDepth 100000 in
theorem gRX1_89 : q_gf RX1 89 1 2 := ⟨_, _, _, rfl, by decide, q_inT1, q_mt_1 168 rfl rfl⟩
set_option maxRecDepth 100000 in
theorem pRX1_89 : q_pf RX1 89 1 2 .int := ⟨_, _, _, tyX1, rfl, by decide, q_inT1, q_mt_1 168 rfl rfl, tyX1_ok, nmX1, rfl, tyX1_ok 2 (by decide)⟩
set_option maxRecDepth 100000 in
theorem gRX1_92 : q_gf RX1 92 9 3 := ⟨_, _, _, rfl, by decide, q_inT9, q_mt_1 47 rfl rfl⟩
set_option maxRecDepth 100000 in
theorem gRX1_95 : q_gf RX1 95 9 11 := ⟨_, _, _, rfl, by decide, q_inT9, q_mt_1 80 rfl rfl⟩
set_option maxRecDepth 100000 in
theorem lRX1_98 : Cond.methodLink RX1 98 yX9_alike ∈ q_tb := q_mt_5 200 rfl rfl
set_option maxRecDepth 100000 in
theorem lRX1_102 : Cond.methodLink RX1 102 yX9_nodesIn ∈ q_tb := q_mt_5 201 rfl rfl
set_option maxRecDepth 100000 in
theorem lRX1_105 : Cond.methodLink RX1 105 yX9_start ∈ q_tb := q_mt_5 209 rfl rfl
set_option maxRecDepth 100000 in
theorem lRX1_109 : Cond.methodLink RX1 109 yX9_add ∈ q_tb := q_mt_5 210 rfl rfl
set_option maxRecDepth 100000 in
theorem mX9_addAll : q_mt yX9_addAll cX9_addAll 3 (some .boolean) 2 := ⟨q_mt_5 214 rfl rfl, q_mt_1 2 rfl rfl, ⟨q_ncRX9.1, q_ncRX9.2.1, by decide +kernel⟩, by decide⟩
set_option maxRecDepth 100000 in
theorem lRX1_112 : Cond.methodLink RX1 112 yX9_addAll ∈ q_tb := q_mt_5 211 rfl rfl
set_option maxRecDepth 100000 in
theorem iX9_addAll : Cond.instanceMethod yX9_addAll ∈ q_tb := q_mt_5 212 rfl rfl
set_option maxRecDepth 100000 in
theorem eX9_addAll : Cond.selects (yX9_addAll).cls yX9_addAll yX9_addAll ∈ q_tb := q_mt_5 213 rfl rfl
set_option maxRecDepth 100000 in
theorem kRX1_116 : Jvm.Cond.constant RX1 116 (-100006) ∈ q_tb := q_mt_5 219 rfl rfl
set_option maxRecDepth 100000 in
theorem gRX0_15 : q_gf RX0 15 0 2 := ⟨_, _, _, rfl, by decide, q_inT0, q_mt_1 208 rfl rfl⟩
set_option maxRecDepth 100000 in
theorem gRX0_24 : q_gf RX0 24 9 4 := ⟨_, _, _, rfl, by decide, q_inT9, q_mt_1 51 rfl rfl⟩
set_option maxRecDepth 100000 in
theorem gRX0_30 : q_gf RX0 30 0 1 := ⟨_, _, _, rfl, by decide, q_inT0, q_mt_1 207 rfl rfl⟩
set_option maxRecDepth 100000 in
theorem pRX0_30 : q_pf RX0 30 0 1 .int := ⟨_, _, _, tyX0, rfl, by decide, q_inT0, q_mt_1 207 rfl rfl, tyX0_ok, nmX0, rfl, tyX0_ok 1 (by decide)⟩
set_option maxRecDepth 100000 in
theorem gRX0_31 : q_gf RX0 31 9 12 := ⟨_, _, _, rfl, by decide, q_inT9, q_mt_1 85 rfl rfl⟩
set_option maxRecDepth 100000 in
theorem gRX0_34 : q_gf RX0 34 9 5 := ⟨_, _, _, rfl, by decide, q_inT9, q_mt_1 59 rfl rfl⟩
set_option maxRecDepth 100000 in
theorem lRX0_37 : Cond.methodLinkNest RX0 37 yX11_isName "GrammarTools" ∈ q_nt := q_mn5 233 rfl rfl
set_option maxRecDepth 100000 in
theorem gRX0_41 : q_gf RX0 41 9 7 := ⟨_, _, _, rfl, by decide, q_inT9, q_mt_1 69 rfl rfl⟩
set_option maxRecDepth 100000 in
theorem gRX0_44 : q_gf RX0 44 8 8 := ⟨_, _, _, rfl, by decide, q_inT8, q_mt_2 130 rfl rfl⟩
set_option maxRecDepth 100000 in
theorem gRX0_49 : q_gf RX0 49 9 8 := ⟨_, _, _, rfl, by decide, q_inT9, q_mt_1 72 rfl rfl⟩
set_option maxRecDepth 100000 in
theorem gRX0_18 : q_gf RX0 18 0 3 := ⟨_, _, _, rfl, by decide, q_inT0, q_mt_1 209 rfl rfl⟩
set_option maxRecDepth 100000 in
theorem lRX0_52 : Cond.methodLink RX0 52 yX0_isTell ∈ q_tb := q_mt_5 234 rfl rfl
set_option maxRecDepth 100000 in
theorem mX0_reachOf : q_mt yX0_reachOf cX0_reachOf 5 (some .int) 3 := ⟨q_mt_6 0 rfl rfl, q_mt_1 5 rfl rfl, ⟨q_ncRX0.1, q_ncRX0.2.1, by decide +kernel⟩, by decide⟩
set_option maxRecDepth 100000 in
theorem lRX0_55 : Cond.methodLink RX0 55 yX0_reachOf ∈ q_tb := q_mt_5 238 rfl rfl
set_option maxRecDepth 100000 in
theorem sX0_reachOf : Cond.static yX0_reachOf ∈ q_tb := q_mt_5 239 rfl rfl
set_option maxRecDepth 100000 in
theorem gRX0_9 : q_gf RX0 9 0 0 := ⟨_, _, _, rfl, by decide, q_inT0, q_mt_1 204 rfl rfl⟩
set_option maxRecDepth 100000 in
theorem lRX0_59 : Cond.methodLink RX0 59 yX0_isUse ∈ q_tb := q_mt_6 1 rfl rfl
set_option maxRecDepth 100000 in
theorem mX0_findTell : q_mt yX0_findTell cX0_findTell 8 (some .int) 2 := ⟨q_mt_6 8 rfl rfl, q_mt_1 5 rfl rfl, ⟨q_ncRX0.1, q_ncRX0.2.1, by decide +kernel⟩, by decide⟩
set_option maxRecDepth 100000 in
theorem lRX0_62 : Cond.methodLink RX0 62 yX0_findTell ∈ q_tb := q_mt_6 5 rfl rfl
set_option maxRecDepth 100000 in
theorem iX0_findTell : Cond.instanceMethod yX0_findTell ∈ q_tb := q_mt_6 7 rfl rfl
set_option maxRecDepth 100000 in
theorem eX0_findTell : Cond.selects (yX0_findTell).cls yX0_findTell yX0_findTell ∈ q_tb := q_ms 46 rfl rfl
set_option maxRecDepth 100000 in
theorem gRX0_66 : q_gf RX0 66 8 10 := ⟨_, _, _, rfl, by decide, q_inT8, q_mt_2 136 rfl rfl⟩
set_option maxRecDepth 100000 in
theorem mX0_reaches : q_mt yX0_reaches cX0_reaches 6 (some .boolean) 3 := ⟨q_mt_6 12 rfl rfl, q_mt_1 5 rfl rfl, ⟨q_ncRX0.1, q_ncRX0.2.1, by decide +kernel⟩, by decide⟩
set_option maxRecDepth 100000 in
theorem lRX0_70 : Cond.methodLink RX0 70 yX0_reaches ∈ q_tb := q_mt_6 9 rfl rfl
set_option maxRecDepth 100000 in
theorem iX0_reaches : Cond.instanceMethod yX0_reaches ∈ q_tb := q_mt_6 11 rfl rfl
set_option maxRecDepth 100000 in
theorem eX0_reaches : Cond.selects (yX0_reaches).cls yX0_reaches yX0_reaches ∈ q_tb := q_ms 47 rfl rfl
set_option maxRecDepth 100000 in
theorem gRX0_74 : q_gf RX0 74 9 6 := ⟨_, _, _, rfl, by decide, q_inT9, q_mt_1 65 rfl rfl⟩
set_option maxRecDepth 100000 in
theorem gRX0_21 : q_gf RX0 21 0 4 := ⟨_, _, _, rfl, by decide, q_inT0, q_mt_1 210 rfl rfl⟩
set_option maxRecDepth 100000 in
theorem lRX0_77 : Cond.methodLink RX0 77 arraycopyName ∈ q_tb := q_mt_6 31 rfl rfl
set_option maxRecDepth 100000 in
theorem gRX2_33 : q_gf RX2 33 2 1 := ⟨_, _, _, rfl, by decide, q_inT2, q_mt_1 230 rfl rfl⟩
set_option maxRecDepth 100000 in
theorem pRX2_33 : q_pf RX2 33 2 1 .int := ⟨_, _, _, tyX2, rfl, by decide, q_inT2, q_mt_1 230 rfl rfl, tyX2_ok, nmX2, rfl, tyX2_ok 1 (by decide)⟩
set_option maxRecDepth 100000 in
theorem gRX2_37 : q_gf RX2 37 9 2 := ⟨_, _, _, rfl, by decide, q_inT9, q_mt_1 43 rfl rfl⟩
set_option maxRecDepth 100000 in
theorem gRX2_42 : q_gf RX2 42 2 2 := ⟨_, _, _, rfl, by decide, q_inT2, q_mt_1 231 rfl rfl⟩
set_option maxRecDepth 100000 in
theorem pRX2_42 : q_pf RX2 42 2 2 .int := ⟨_, _, _, tyX2, rfl, by decide, q_inT2, q_mt_1 231 rfl rfl, tyX2_ok, nmX2, rfl, tyX2_ok 2 (by decide)⟩
set_option maxRecDepth 100000 in
theorem gRX2_45 : q_gf RX2 45 9 3 := ⟨_, _, _, rfl, by decide, q_inT9, q_mt_1 46 rfl rfl⟩
set_option maxRecDepth 100000 in
theorem gRX2_48 : q_gf RX2 48 9 11 := ⟨_, _, _, rfl, by decide, q_inT9, q_mt_1 79 rfl rfl⟩
set_option maxRecDepth 100000 in
theorem gRX2_51 : q_gf RX2 51 9 5 := ⟨_, _, _, rfl, by decide, q_inT9, q_mt_1 55 rfl rfl⟩
set_option maxRecDepth 100000 in
theorem gRX2_54 : q_gf RX2 54 8 11 := ⟨_, _, _, rfl, by decide, q_inT8, q_mt_2 139 rfl rfl⟩
set_option maxRecDepth 100000 in
theorem gRX2_59 : q_gf RX2 59 8 12 := ⟨_, _, _, rfl, by decide, q_inT8, q_mt_2 142 rfl rfl⟩
set_option maxRecDepth 100000 in
theorem gRX2_62 : q_gf RX2 62 8 13 := ⟨_, _, _, rfl, by decide, q_inT8, q_mt_2 144 rfl rfl⟩
set_option maxRecDepth 100000 in
theorem lRX2_65 : Cond.methodLink RX2 65 yX9_child ∈ q_tb := q_mt_6 52 rfl rfl
set_option maxRecDepth 100000 in
theorem mX2_addHeld : q_mt yX2_addHeld cX2_addHeld 5 none 4 := ⟨q_mt_6 56 rfl rfl, q_mt_1 6 rfl rfl, ⟨q_ncRX2.1, q_ncRX2.2.1, by decide +kernel⟩, by decide⟩
set_option maxRecDepth 100000 in
theorem lRX2_69 : Cond.methodLink RX2 69 yX2_addHeld ∈ q_tb := q_mt_6 53 rfl rfl
set_option maxRecDepth 100000 in
theorem iX2_addHeld : Cond.instanceMethod yX2_addHeld ∈ q_tb := q_mt_6 55 rfl rfl
set_option maxRecDepth 100000 in
theorem eX2_addHeld : Cond.selects (yX2_addHeld).cls yX2_addHeld yX2_addHeld ∈ q_tb := q_ms 49 rfl rfl
set_option maxRecDepth 100000 in
theorem gRX2_73 : q_gf RX2 73 9 4 := ⟨_, _, _, rfl, by decide, q_inT9, q_mt_1 50 rfl rfl⟩
set_option maxRecDepth 100000 in
theorem lRX2_76 : Cond.methodLink RX2 76 yX0_isUse ∈ q_tb := q_mt_6 57 rfl rfl
set_option maxRecDepth 100000 in
theorem gRX2_82 : q_gf RX2 82 0 0 := ⟨_, _, _, rfl, by decide, q_inT0, q_mt_1 205 rfl rfl⟩
set_option maxRecDepth 100000 in
theorem gRX2_85 : q_gf RX2 85 9 12 := ⟨_, _, _, rfl, by decide, q_inT9, q_mt_1 84 rfl rfl⟩
set_option maxRecDepth 100000 in
theorem gRX2_11 : q_gf RX2 11 2 3 := ⟨_, _, _, rfl, by decide, q_inT2, q_mt_1 232 rfl rfl⟩
set_option maxRecDepth 100000 in
theorem gRX2_15 : q_gf RX2 15 2 4 := ⟨_, _, _, rfl, by decide, q_inT2, q_mt_1 233 rfl rfl⟩
set_option maxRecDepth 100000 in
theorem gRX2_18 : q_gf RX2 18 2 5 := ⟨_, _, _, rfl, by decide, q_inT2, q_mt_1 234 rfl rfl⟩
set_option maxRecDepth 100000 in
theorem gRX2_21 : q_gf RX2 21 2 6 := ⟨_, _, _, rfl, by decide, q_inT2, q_mt_1 235 rfl rfl⟩
set_option maxRecDepth 100000 in
theorem mX2_letAllGo : q_mt yX2_letAllGo cX2_letAllGo 2 none 0 := ⟨q_mt_6 65 rfl rfl, q_mt_1 6 rfl rfl, ⟨q_ncRX2.1, q_ncRX2.2.1, by decide +kernel⟩, by decide⟩
set_option maxRecDepth 100000 in
theorem lRX2_88 : Cond.methodLink RX2 88 yX2_letAllGo ∈ q_tb := q_mt_6 62 rfl rfl
set_option maxRecDepth 100000 in
theorem iX2_letAllGo : Cond.instanceMethod yX2_letAllGo ∈ q_tb := q_mt_6 64 rfl rfl
set_option maxRecDepth 100000 in
theorem eX2_letAllGo : Cond.selects (yX2_letAllGo).cls yX2_letAllGo yX2_letAllGo ∈ q_tb := q_ms 50 rfl rfl
set_option maxRecDepth 100000 in
theorem mX2_holdOne : q_mt yX2_holdOne cX2_holdOne 4 (some .boolean) 1 := ⟨q_mt_6 69 rfl rfl, q_mt_1 6 rfl rfl, ⟨q_ncRX2.1, q_ncRX2.2.1, by decide +kernel⟩, by decide⟩
set_option maxRecDepth 100000 in
theorem lRX2_91 : Cond.methodLink RX2 91 yX2_holdOne ∈ q_tb := q_mt_6 66 rfl rfl
set_option maxRecDepth 100000 in
theorem iX2_holdOne : Cond.instanceMethod yX2_holdOne ∈ q_tb := q_mt_6 68 rfl rfl
set_option maxRecDepth 100000 in
theorem eX2_holdOne : Cond.selects (yX2_holdOne).cls yX2_holdOne yX2_holdOne ∈ q_tb := q_ms 51 rfl rfl
set_option maxRecDepth 100000 in
theorem gRX2_27 : q_gf RX2 27 2 8 := ⟨_, _, _, rfl, by decide, q_inT2, q_mt_1 237 rfl rfl⟩
set_option maxRecDepth 100000 in
theorem gRX2_30 : q_gf RX2 30 2 9 := ⟨_, _, _, rfl, by decide, q_inT2, q_mt_1 238 rfl rfl⟩
set_option maxRecDepth 100000 in
theorem mX2_headOf : q_mt yX2_headOf cX2_headOf 4 (some .int) 1 := ⟨q_mt_6 73 rfl rfl, q_mt_1 6 rfl rfl, ⟨q_ncRX2.1, q_ncRX2.2.1, by decide +kernel⟩, by decide⟩
set_option maxRecDepth 100000 in
theorem lRX2_94 : Cond.methodLink RX2 94 yX2_headOf ∈ q_tb := q_mt_6 70 rfl rfl
set_option maxRecDepth 100000 in
theorem iX2_headOf : Cond.instanceMethod yX2_headOf ∈ q_tb := q_mt_6 72 rfl rfl
set_option maxRecDepth 100000 in
theorem eX2_headOf : Cond.selects (yX2_headOf).cls yX2_headOf yX2_headOf ∈ q_tb := q_ms 52 rfl rfl
set_option maxRecDepth 100000 in
theorem lRX2_98 : Cond.methodLink RX2 98 yJ6_bitCount_0f7a4 ∈ q_tb := q_mt_6 74 rfl rfl
set_option maxRecDepth 100000 in
theorem gRX2_103 : q_gf RX2 103 2 0 := ⟨_, _, _, rfl, by decide, q_inT2, q_mt_1 228 rfl rfl⟩
set_option maxRecDepth 100000 in
theorem pRX2_103 : q_pf RX2 103 2 0 .int := ⟨_, _, _, tyX2, rfl, by decide, q_inT2, q_mt_1 228 rfl rfl, tyX2_ok, nmX2, rfl, tyX2_ok 0 (by decide)⟩
set_option maxRecDepth 100000 in
theorem mX2_holdBlamed : q_mt yX2_holdBlamed cX2_holdBlamed 3 (some .boolean) 0 := ⟨q_mt_6 90 rfl rfl, q_mt_1 6 rfl rfl, ⟨q_ncRX2.1, q_ncRX2.2.1, by decide +kernel⟩, by decide⟩
set_option maxRecDepth 100000 in
theorem lRX2_106 : Cond.methodLink RX2 106 yX2_holdBlamed ∈ q_tb := q_mt_6 87 rfl rfl
set_option maxRecDepth 100000 in
theorem iX2_holdBlamed : Cond.instanceMethod yX2_holdBlamed ∈ q_tb := q_mt_6 89 rfl rfl
set_option maxRecDepth 100000 in
theorem eX2_holdBlamed : Cond.selects (yX2_holdBlamed).cls yX2_holdBlamed yX2_holdBlamed ∈ q_tb := q_ms 53 rfl rfl
set_option maxRecDepth 100000 in
theorem gRX2_24 : q_gf RX2 24 2 7 := ⟨_, _, _, rfl, by decide, q_inT2, q_mt_1 236 rfl rfl⟩
set_option maxRecDepth 100000 in
theorem lRX2_110 : Cond.methodLinkNest RX2 110 yX11_within "GrammarTools" ∈ q_nt := q_mn6 95 rfl rfl
set_option maxRecDepth 100000 in
theorem gRX5_9 : q_gf RX5 9 5 5 := ⟨_, _, _, rfl, by decide, q_inT5, q_mt_3 70 rfl rfl⟩
set_option maxRecDepth 100000 in
theorem lRX5_30 : Cond.methodLink RX5 30 arraycopyName ∈ q_tb := q_mt_6 111 rfl rfl
set_option maxRecDepth 100000 in
theorem gRX5_22 : q_gf RX5 22 5 2 := ⟨_, _, _, rfl, by decide, q_inT5, q_mt_3 67 rfl rfl⟩
set_option maxRecDepth 100000 in
theorem pRX5_22 : q_pf RX5 22 5 2 (.object "GrammarTools$Telling") := ⟨_, _, _, tyX5, rfl, by decide, q_inT5, q_mt_3 67 rfl rfl, tyX5_ok, nmX5, rfl, tyX5_ok 2 (by decide)⟩
set_option maxRecDepth 100000 in
theorem gRX5_26 : q_gf RX5 26 5 3 := ⟨_, _, _, rfl, by decide, q_inT5, q_mt_3 68 rfl rfl⟩
set_option maxRecDepth 100000 in
theorem pRX5_26 : q_pf RX5 26 5 3 (.object "GrammarTools$Tree") := ⟨_, _, _, tyX5, rfl, by decide, q_inT5, q_mt_3 68 rfl rfl, tyX5_ok, nmX5, rfl, tyX5_ok 3 (by decide)⟩
set_option maxRecDepth 100000 in
theorem gRX5_36 : q_gf RX5 36 5 4 := ⟨_, _, _, rfl, by decide, q_inT5, q_mt_3 69 rfl rfl⟩
set_option maxRecDepth 100000 in
theorem pRX5_36 : q_pf RX5 36 5 4 .int := ⟨_, _, _, tyX5, rfl, by decide, q_inT5, q_mt_3 69 rfl rfl, tyX5_ok, nmX5, rfl, tyX5_ok 4 (by decide)⟩
set_option maxRecDepth 100000 in
theorem gRX5_40 : q_gf RX5 40 5 0 := ⟨_, _, _, rfl, by decide, q_inT5, q_mt_3 63 rfl rfl⟩
set_option maxRecDepth 100000 in
theorem pRX5_40 : q_pf RX5 40 5 0 .int := ⟨_, _, _, tyX5, rfl, by decide, q_inT5, q_mt_3 63 rfl rfl, tyX5_ok, nmX5, rfl, tyX5_ok 0 (by decide)⟩
set_option maxRecDepth 100000 in
theorem gRX5_43 : q_gf RX5 43 5 1 := ⟨_, _, _, rfl, by decide, q_inT5, q_mt_3 65 rfl rfl⟩
set_option maxRecDepth 100000 in
theorem pRX5_43 : q_pf RX5 43 5 1 .boolean := ⟨_, _, _, tyX5, rfl, by decide, q_inT5, q_mt_3 65 rfl rfl, tyX5_ok, nmX5, rfl, tyX5_ok 1 (by decide)⟩
set_option maxRecDepth 100000 in
theorem gRX5_18 : q_gf RX5 18 5 7 := ⟨_, _, _, rfl, by decide, q_inT5, q_mt_3 72 rfl rfl⟩
set_option maxRecDepth 100000 in
theorem mX5_workPiece : q_mt yX5_workPiece cX5_workPiece 4 (some .int) 2 := ⟨q_mt_6 119 rfl rfl, q_mt_1 13 rfl rfl, ⟨q_ncRX5.1, q_ncRX5.2.1, by decide +kernel⟩, by decide⟩
set_option maxRecDepth 100000 in
theorem lRX5_47 : Cond.methodLink RX5 47 yX5_workPiece ∈ q_tb := q_mt_6 116 rfl rfl
set_option maxRecDepth 100000 in
theorem iX5_workPiece : Cond.instanceMethod yX5_workPiece ∈ q_tb := q_mt_6 118 rfl rfl
set_option maxRecDepth 100000 in
theorem eX5_workPiece : Cond.selects (yX5_workPiece).cls yX5_workPiece yX5_workPiece ∈ q_tb := q_ms 54 rfl rfl
set_option maxRecDepth 100000 in
theorem gRX5_51 : q_gf RX5 51 9 5 := ⟨_, _, _, rfl, by decide, q_inT9, q_mt_1 57 rfl rfl⟩
set_option maxRecDepth 100000 in
theorem lRX5_56 : Cond.methodLink RX5 56 yX9_isNodeAt ∈ q_tb := q_mt_6 120 rfl rfl
set_option maxRecDepth 100000 in
theorem mX5_workNode : q_mt yX5_workNode cX5_workNode 5 (some .int) 3 := ⟨q_mt_6 124 rfl rfl, q_mt_1 13 rfl rfl, ⟨q_ncRX5.1, q_ncRX5.2.1, by decide +kernel⟩, by decide⟩
set_option maxRecDepth 100000 in
theorem lRX5_60 : Cond.methodLink RX5 60 yX5_workNode ∈ q_tb := q_mt_6 121 rfl rfl
set_option maxRecDepth 100000 in
theorem iX5_workNode : Cond.instanceMethod yX5_workNode ∈ q_tb := q_mt_6 123 rfl rfl
set_option maxRecDepth 100000 in
theorem eX5_workNode : Cond.selects (yX5_workNode).cls yX5_workNode yX5_workNode ∈ q_tb := q_ms 55 rfl rfl
set_option maxRecDepth 100000 in
theorem mX11_isHole : q_mt yX11_isHole cX11_isHole 1 (some .boolean) 1 := ⟨q_mt_6 142 rfl rfl, q_mt_1 1 rfl rfl, ⟨q_ncRX11.1, q_ncRX11.2.1, by decide +kernel⟩, by decide⟩
set_option maxRecDepth 100000 in
theorem lRX5_64 : Cond.methodLinkNest RX5 64 yX11_isHole "GrammarTools" ∈ q_nt := q_mn6 140 rfl rfl
set_option maxRecDepth 100000 in
theorem sX11_isHole : Cond.static yX11_isHole ∈ q_tb := q_mt_6 141 rfl rfl
set_option maxRecDepth 100000 in
theorem lRX5_67 : Cond.methodLinkNest RX5 67 yX11_isName "GrammarTools" ∈ q_nt := q_mn6 130 rfl rfl
set_option maxRecDepth 100000 in
theorem gRX5_15 : q_gf RX5 15 5 6 := ⟨_, _, _, rfl, by decide, q_inT5, q_mt_3 71 rfl rfl⟩
set_option maxRecDepth 100000 in
theorem gRX5_70 : q_gf RX5 70 8 5 := ⟨_, _, _, rfl, by decide, q_inT8, q_mt_2 120 rfl rfl⟩
set_option maxRecDepth 100000 in
theorem gRX5_75 : q_gf RX5 75 8 9 := ⟨_, _, _, rfl, by decide, q_inT8, q_mt_2 133 rfl rfl⟩
set_option maxRecDepth 100000 in
theorem mX5_workLet : q_mt yX5_workLet cX5_workLet 9 (some .int) 2 := ⟨q_mt_6 128 rfl rfl, q_mt_1 13 rfl rfl, ⟨q_ncRX5.1, q_ncRX5.2.1, by decide +kernel⟩, by decide⟩
set_option maxRecDepth 100000 in
theorem lRX5_78 : Cond.methodLink RX5 78 yX5_workLet ∈ q_tb := q_mt_6 125 rfl rfl
set_option maxRecDepth 100000 in
theorem iX5_workLet : Cond.instanceMethod yX5_workLet ∈ q_tb := q_mt_6 127 rfl rfl
set_option maxRecDepth 100000 in
theorem eX5_workLet : Cond.selects (yX5_workLet).cls yX5_workLet yX5_workLet ∈ q_tb := q_ms 56 rfl rfl
set_option maxRecDepth 100000 in
theorem mX5_workIf : q_mt yX5_workIf cX5_workIf 4 (some .int) 2 := ⟨q_mt_6 134 rfl rfl, q_mt_1 13 rfl rfl, ⟨q_ncRX5.1, q_ncRX5.2.1, by decide +kernel⟩, by decide⟩
set_option maxRecDepth 100000 in
theorem lRX5_81 : Cond.methodLink RX5 81 yX5_workIf ∈ q_tb := q_mt_6 131 rfl rfl
set_option maxRecDepth 100000 in
theorem iX5_workIf : Cond.instanceMethod yX5_workIf ∈ q_tb := q_mt_6 133 rfl rfl
set_option maxRecDepth 100000 in
theorem eX5_workIf : Cond.selects (yX5_workIf).cls yX5_workIf yX5_workIf ∈ q_tb := q_ms 57 rfl rfl
set_option maxRecDepth 100000 in
theorem mX5_workSlots : q_mt yX5_workSlots cX5_workSlots 9 (some .int) 4 := ⟨q_mt_6 138 rfl rfl, q_mt_1 13 rfl rfl, ⟨q_ncRX5.1, q_ncRX5.2.1, by decide +kernel⟩, by decide⟩
set_option maxRecDepth 100000 in
theorem lRX5_84 : Cond.methodLink RX5 84 yX5_workSlots ∈ q_tb := q_mt_6 135 rfl rfl
set_option maxRecDepth 100000 in
theorem iX5_workSlots : Cond.instanceMethod yX5_workSlots ∈ q_tb := q_mt_6 137 rfl rfl
set_option maxRecDepth 100000 in
theorem eX5_workSlots : Cond.selects (yX5_workSlots).cls yX5_workSlots yX5_workSlots ∈ q_tb := q_ms 58 rfl rfl
set_option maxRecDepth 100000 in
theorem lRX5_88 : Cond.methodLink RX5 88 yJ9_min_7cf53 ∈ q_tb := q_mt_6 139 rfl rfl
set_option maxRecDepth 100000 in
theorem lRX5_93 : Cond.methodLink RX5 93 yX9_child ∈ q_tb := q_mt_6 129 rfl rfl
set_option maxRecDepth 100000 in
theorem gRX10_24 : q_gf RX10 24 10 5 := ⟨_, _, _, rfl, by decide, q_inT10, q_mt_2 38 rfl rfl⟩
set_option maxRecDepth 100000 in
theorem gRX10_9 : q_gf RX10 9 10 2 := ⟨_, _, _, rfl, by decide, q_inT10, q_mt_2 33 rfl rfl⟩
set_option maxRecDepth 100000 in
theorem gRX10_15 : q_gf RX10 15 10 3 := ⟨_, _, _, rfl, by decide, q_inT10, q_mt_2 35 rfl rfl⟩
set_option maxRecDepth 100000 in
theorem gRX10_62 : q_gf RX10 62 10 1 := ⟨_, _, _, rfl, by decide, q_inT10, q_mt_2 31 rfl rfl⟩
set_option maxRecDepth 100000 in
theorem gRX10_66 : q_gf RX10 66 10 0 := ⟨_, _, _, rfl, by decide, q_inT10, q_mt_2 29 rfl rfl⟩
set_option maxRecDepth 100000 in
theorem pRX10_66 : q_pf RX10 66 10 0 .int := ⟨_, _, _, tyX10, rfl, by decide, q_inT10, q_mt_2 29 rfl rfl, tyX10_ok, nmX10, rfl, tyX10_ok 0 (by decide)⟩
set_option maxRecDepth 100000 in
theorem lRX10_69 : Cond.methodLink RX10 69 yX10_side ∈ q_tb := q_mt_3 202 rfl rfl
set_option maxRecDepth 100000 in
theorem gRX10_73 : q_gf RX10 73 9 1 := ⟨_, _, _, rfl, by decide, q_inT9, q_mt_1 39 rfl rfl⟩
set_option maxRecDepth 100000 in
theorem pRX10_62 : q_pf RX10 62 10 1 .int := ⟨_, _, _, tyX10, rfl, by decide, q_inT10, q_mt_2 31 rfl rfl, tyX10_ok, nmX10, rfl, tyX10_ok 1 (by decide)⟩
set_option maxRecDepth 100000 in
theorem gRX10_20 : q_gf RX10 20 10 4 := ⟨_, _, _, rfl, by decide, q_inT10, q_mt_2 37 rfl rfl⟩
set_option maxRecDepth 100000 in
theorem lRX10_76 : Cond.methodLink RX10 76 yX9_become ∈ q_tb := q_mt_6 155 rfl rfl
set_option maxRecDepth 100000 in
theorem gRX10_80 : q_gf RX10 80 10 8 := ⟨_, _, _, rfl, by decide, q_inT10, q_mt_2 41 rfl rfl⟩
set_option maxRecDepth 100000 in
theorem pRX10_80 : q_pf RX10 80 10 8 .int := ⟨_, _, _, tyX10, rfl, by decide, q_inT10, q_mt_2 41 rfl rfl, tyX10_ok, nmX10, rfl, tyX10_ok 8 (by decide)⟩
set_option maxRecDepth 100000 in
theorem mX10_layBefores : q_mt yX10_layBefores cX10_layBefores 3 (some .boolean) 0 := ⟨q_mt_6 174 rfl rfl, q_mt_1 7 rfl rfl, ⟨q_ncRX10.1, q_ncRX10.2.1, by decide +kernel⟩, by decide⟩
set_option maxRecDepth 100000 in
theorem lRX10_83 : Cond.methodLink RX10 83 yX10_layBefores ∈ q_tb := q_mt_6 171 rfl rfl
set_option maxRecDepth 100000 in
theorem iX10_layBefores : Cond.instanceMethod yX10_layBefores ∈ q_tb := q_mt_6 173 rfl rfl
set_option maxRecDepth 100000 in
theorem eX10_layBefores : Cond.selects (yX10_layBefores).cls yX10_layBefores yX10_layBefores ∈ q_tb := q_ms 59 rfl rfl
set_option maxRecDepth 100000 in
theorem mX10_layAfters : q_mt yX10_layAfters cX10_layAfters 3 (some .boolean) 0 := ⟨q_mt_6 196 rfl rfl, q_mt_1 7 rfl rfl, ⟨q_ncRX10.1, q_ncRX10.2.1, by decide +kernel⟩, by decide⟩
set_option maxRecDepth 100000 in
theorem lRX10_87 : Cond.methodLink RX10 87 yX10_layAfters ∈ q_tb := q_mt_6 193 rfl rfl
set_option maxRecDepth 100000 in
theorem iX10_layAfters : Cond.instanceMethod yX10_layAfters ∈ q_tb := q_mt_6 195 rfl rfl
set_option maxRecDepth 100000 in
theorem eX10_layAfters : Cond.selects (yX10_layAfters).cls yX10_layAfters yX10_layAfters ∈ q_tb := q_ms 63 rfl rfl
set_option maxRecDepth 100000 in
theorem kRX10_90 : Jvm.Cond.constant RX10 90 (-100003) ∈ q_tb := q_mt_6 197 rfl rfl
set_option maxRecDepth 100000 in
theorem gRX10_38 : q_gf RX10 38 10 10 := ⟨_, _, _, rfl, by decide, q_inT10, q_mt_2 43 rfl rfl⟩
set_option maxRecDepth 100000 in
theorem lRX10_91 : Cond.methodLink RX10 91 yX9_index ∈ q_tb := q_mt_6 198 rfl rfl
set_option maxRecDepth 100000 in
theorem gRX10_42 : q_gf RX10 42 10 11 := ⟨_, _, _, rfl, by decide, q_inT10, q_mt_2 44 rfl rfl⟩
set_option maxRecDepth 100000 in
theorem lRX10_95 : Cond.methodLink RX10 95 yX9_start ∈ q_tb := q_mt_6 175 rfl rfl
set_option maxRecDepth 100000 in
theorem gRX10_27 : q_gf RX10 27 10 6 := ⟨_, _, _, rfl, by decide, q_inT10, q_mt_2 39 rfl rfl⟩
set_option maxRecDepth 100000 in
theorem lRX10_99 : Cond.methodLink RX10 99 yJ7_fill_53178 ∈ q_tb := q_mt_6 176 rfl rfl
set_option maxRecDepth 100000 in
theorem gRX10_105 : q_gf RX10 105 9 2 := ⟨_, _, _, rfl, by decide, q_inT9, q_mt_1 44 rfl rfl⟩
set_option maxRecDepth 100000 in
theorem mX10_isOne : q_mt yX10_isOne cX10_isOne 3 (some .boolean) 1 := ⟨q_mt_6 180 rfl rfl, q_mt_1 7 rfl rfl, ⟨q_ncRX10.1, q_ncRX10.2.1, by decide +kernel⟩, by decide⟩
set_option maxRecDepth 100000 in
theorem lRX10_108 : Cond.methodLink RX10 108 yX10_isOne ∈ q_tb := q_mt_6 177 rfl rfl
set_option maxRecDepth 100000 in
theorem iX10_isOne : Cond.instanceMethod yX10_isOne ∈ q_tb := q_mt_6 179 rfl rfl
set_option maxRecDepth 100000 in
theorem eX10_isOne : Cond.selects (yX10_isOne).cls yX10_isOne yX10_isOne ∈ q_tb := q_ms 60 rfl rfl
set_option maxRecDepth 100000 in
theorem gRX10_112 : q_gf RX10 112 9 5 := ⟨_, _, _, rfl, by decide, q_inT9, q_mt_1 60 rfl rfl⟩
set_option maxRecDepth 100000 in
theorem lRX10_115 : Cond.methodLink RX10 115 yX9_add ∈ q_tb := q_mt_6 181 rfl rfl
set_option maxRecDepth 100000 in
theorem mX10_goOn : q_mt yX10_goOn cX10_goOn 4 none 2 := ⟨q_mt_6 185 rfl rfl, q_mt_1 7 rfl rfl, ⟨q_ncRX10.1, q_ncRX10.2.1, by decide +kernel⟩, by decide⟩
set_option maxRecDepth 100000 in
theorem lRX10_118 : Cond.methodLink RX10 118 yX10_goOn ∈ q_tb := q_mt_6 182 rfl rfl
set_option maxRecDepth 100000 in
theorem iX10_goOn : Cond.instanceMethod yX10_goOn ∈ q_tb := q_mt_6 184 rfl rfl
set_option maxRecDepth 100000 in
theorem eX10_goOn : Cond.selects (yX10_goOn).cls yX10_goOn yX10_goOn ∈ q_tb := q_ms 61 rfl rfl
set_option maxRecDepth 100000 in
theorem mX10_holeOf : q_mt yX10_holeOf cX10_holeOf 6 (some .int) 1 := ⟨q_mt_6 189 rfl rfl, q_mt_1 7 rfl rfl, ⟨q_ncRX10.1, q_ncRX10.2.1, by decide +kernel⟩, by decide⟩
set_option maxRecDepth 100000 in
theorem lRX10_122 : Cond.methodLink RX10 122 yX10_holeOf ∈ q_tb := q_mt_6 186 rfl rfl
set_option maxRecDepth 100000 in
theorem iX10_holeOf : Cond.instanceMethod yX10_holeOf ∈ q_tb := q_mt_6 188 rfl rfl
set_option maxRecDepth 100000 in
theorem eX10_holeOf : Cond.selects (yX10_holeOf).cls yX10_holeOf yX10_holeOf ∈ q_tb := q_ms 62 rfl rfl
set_option maxRecDepth 100000 in
theorem gRX10_31 : q_gf RX10 31 10 7 := ⟨_, _, _, rfl, by decide, q_inT10, q_mt_2 40 rfl rfl⟩
set_option maxRecDepth 100000 in
theorem lRX10_126 : Cond.methodLink RX10 126 arraycopyName ∈ q_tb := q_mt_6 191 rfl rfl
set_option maxRecDepth 100000 in
theorem lRX10_132 : Cond.methodLinkNest RX10 132 yX11_isHole "GrammarTools" ∈ q_nt := q_mn6 192 rfl rfl
set_option maxRecDepth 100000 in
theorem gRX10_135 : q_gf RX10 135 9 6 := ⟨_, _, _, rfl, by decide, q_inT9, q_mt_1 66 rfl rfl⟩
set_option maxRecDepth 100000 in
theorem lRX10_138 : Cond.methodLink RX10 138 yX9_alike ∈ q_tb := q_mt_6 190 rfl rfl
set_option maxRecDepth 100000 in
theorem gRX10_142 : q_gf RX10 142 9 3 := ⟨_, _, _, rfl, by decide, q_inT9, q_mt_1 48 rfl rfl⟩
set_option maxRecDepth 100000 in
theorem mX10_matches : q_mt yX10_matches cX10_matches 10 (some .boolean) 4 := ⟨q_mt_6 219 rfl rfl, q_mt_1 7 rfl rfl, ⟨q_ncRX10.1, q_ncRX10.2.1, by decide +kernel⟩, by decide⟩
set_option maxRecDepth 100000 in
theorem gRX10_145 : q_gf RX10 145 9 11 := ⟨_, _, _, rfl, by decide, q_inT9, q_mt_1 81 rfl rfl⟩
set_option maxRecDepth 100000 in
theorem lRX10_148 : Cond.methodLink RX10 148 yX10_matches ∈ q_tb := q_mt_6 216 rfl rfl
set_option maxRecDepth 100000 in
theorem iX10_matches : Cond.instanceMethod yX10_matches ∈ q_tb := q_mt_6 218 rfl rfl
set_option maxRecDepth 100000 in
theorem eX10_matches : Cond.selects (yX10_matches).cls yX10_matches yX10_matches ∈ q_tb := q_ms 65 rfl rfl
set_option maxRecDepth 100000 in
theorem lRX10_152 : Cond.methodLink RX10 152 yX9_isNodeAt ∈ q_tb := q_mt_6 220 rfl rfl
set_option maxRecDepth 100000 in
theorem gRX10_155 : q_gf RX10 155 8 2 := ⟨_, _, _, rfl, by decide, q_inT8, q_mt_2 108 rfl rfl⟩
set_option maxRecDepth 100000 in
theorem gRX10_34 : q_gf RX10 34 10 9 := ⟨_, _, _, rfl, by decide, q_inT10, q_mt_2 42 rfl rfl⟩
set_option maxRecDepth 100000 in
theorem lRX10_160 : Cond.methodLink RX10 160 yX9_addRange ∈ q_tb := q_mt_6 233 rfl rfl
set_option maxRecDepth 100000 in
theorem mX10_addFilled : q_mt yX10_addFilled cX10_addFilled 8 (some .boolean) 3 := ⟨q_mt_6 232 rfl rfl, q_mt_1 7 rfl rfl, ⟨q_ncRX10.1, q_ncRX10.2.1, by decide +kernel⟩, by decide⟩
set_option maxRecDepth 100000 in
theorem lRX10_164 : Cond.methodLink RX10 164 yX10_addFilled ∈ q_tb := q_mt_6 229 rfl rfl
set_option maxRecDepth 100000 in
theorem iX10_addFilled : Cond.instanceMethod yX10_addFilled ∈ q_tb := q_mt_6 231 rfl rfl
set_option maxRecDepth 100000 in
theorem eX10_addFilled : Cond.selects (yX10_addFilled).cls yX10_addFilled yX10_addFilled ∈ q_tb := q_ms 66 rfl rfl
set_option maxRecDepth 100000 in
theorem kRX10_168 : Jvm.Cond.constant RX10 168 (-100006) ∈ q_tb := q_mt_6 234 rfl rfl
set_option maxRecDepth 100000 in
theorem gRX10_169 : q_gf RX10 169 10 15 := ⟨_, _, _, rfl, by decide, q_inT10, q_mt_2 48 rfl rfl⟩
set_option maxRecDepth 100000 in
theorem pRX10_169 : q_pf RX10 169 10 15 .int := ⟨_, _, _, tyX10, rfl, by decide, q_inT10, q_mt_2 48 rfl rfl, tyX10_ok, nmX10, rfl, tyX10_ok 15 (by decide)⟩
set_option maxRecDepth 100000 in
theorem mX10_isRow : q_mt yX10_isRow cX10_isRow 4 (some .boolean) 3 := ⟨q_mt_7 9 rfl rfl, q_mt_1 7 rfl rfl, ⟨q_ncRX10.1, q_ncRX10.2.1, by decide +kernel⟩, by decide⟩
set_option maxRecDepth 100000 in
theorem lRX10_172 : Cond.methodLink RX10 172 yX10_isRow ∈ q_tb := q_mt_7 7 rfl rfl
set_option maxRecDepth 100000 in
theorem sX10_isRow : Cond.static yX10_isRow ∈ q_tb := q_mt_7 8 rfl rfl
set_option maxRecDepth 100000 in
theorem mX10_addFound : q_mt yX10_addFound cX10_addFound 3 none 2 := ⟨q_mt_7 13 rfl rfl, q_mt_1 7 rfl rfl, ⟨q_ncRX10.1, q_ncRX10.2.1, by decide +kernel⟩, by decide⟩
set_option maxRecDepth 100000 in
theorem lRX10_176 : Cond.methodLink RX10 176 yX10_addFound ∈ q_tb := q_mt_7 10 rfl rfl
set_option maxRecDepth 100000 in
theorem iX10_addFound : Cond.instanceMethod yX10_addFound ∈ q_tb := q_mt_7 12 rfl rfl
set_option maxRecDepth 100000 in
theorem eX10_addFound : Cond.selects (yX10_addFound).cls yX10_addFound yX10_addFound ∈ q_tb := q_ms 67 rfl rfl
set_option maxRecDepth 100000 in
theorem mX10_loadFound : q_mt yX10_loadFound cX10_loadFound 4 none 2 := ⟨q_mt_7 17 rfl rfl, q_mt_1 7 rfl rfl, ⟨q_ncRX10.1, q_ncRX10.2.1, by decide +kernel⟩, by decide⟩
set_option maxRecDepth 100000 in
theorem lRX10_180 : Cond.methodLink RX10 180 yX10_loadFound ∈ q_tb := q_mt_7 14 rfl rfl
set_option maxRecDepth 100000 in
theorem iX10_loadFound : Cond.instanceMethod yX10_loadFound ∈ q_tb := q_mt_7 16 rfl rfl
set_option maxRecDepth 100000 in
theorem eX10_loadFound : Cond.selects (yX10_loadFound).cls yX10_loadFound yX10_loadFound ∈ q_tb := q_ms 68 rfl rfl
set_option maxRecDepth 100000 in
theorem mX10_isWay : q_mt yX10_isWay cX10_isWay 4 (some .boolean) 2 := ⟨q_mt_7 21 rfl rfl, q_mt_1 7 rfl rfl, ⟨q_ncRX10.1, q_ncRX10.2.1, by decide +kernel⟩, by decide⟩
set_option maxRecDepth 100000 in
theorem lRX10_184 : Cond.methodLink RX10 184 yX10_isWay ∈ q_tb := q_mt_7 18 rfl rfl
set_option maxRecDepth 100000 in
theorem iX10_isWay : Cond.instanceMethod yX10_isWay ∈ q_tb := q_mt_7 20 rfl rfl
set_option maxRecDepth 100000 in
theorem eX10_isWay : Cond.selects (yX10_isWay).cls yX10_isWay yX10_isWay ∈ q_tb := q_ms 69 rfl rfl
set_option maxRecDepth 100000 in
theorem mX10_seekBy : q_mt yX10_seekBy cX10_seekBy 7 (some .int) 4 := ⟨q_mt_7 28 rfl rfl, q_mt_1 7 rfl rfl, ⟨q_ncRX10.1, q_ncRX10.2.1, by decide +kernel⟩, by decide⟩
set_option maxRecDepth 100000 in
theorem gRX10_53 : q_gf RX10 53 10 14 := ⟨_, _, _, rfl, by decide, q_inT10, q_mt_2 47 rfl rfl⟩
set_option maxRecDepth 100000 in
theorem lRX10_188 : Cond.methodLink RX10 188 yX10_seekBy ∈ q_tb := q_mt_7 25 rfl rfl
set_option maxRecDepth 100000 in
theorem iX10_seekBy : Cond.instanceMethod yX10_seekBy ∈ q_tb := q_mt_7 27 rfl rfl
set_option maxRecDepth 100000 in
theorem eX10_seekBy : Cond.selects (yX10_seekBy).cls yX10_seekBy yX10_seekBy ∈ q_tb := q_ms 70 rfl rfl
set_option maxRecDepth 100000 in
theorem mX10_holesIn : q_mt yX10_holesIn cX10_holesIn 3 (some .int) 1 := ⟨q_mt_7 24 rfl rfl, q_mt_1 7 rfl rfl, ⟨q_ncRX10.1, q_ncRX10.2.1, by decide +kernel⟩, by decide⟩
set_option maxRecDepth 100000 in
theorem lRX10_192 : Cond.methodLink RX10 192 yX10_holesIn ∈ q_tb := q_mt_7 22 rfl rfl
set_option maxRecDepth 100000 in
theorem sX10_holesIn : Cond.static yX10_holesIn ∈ q_tb := q_mt_7 23 rfl rfl
set_option maxRecDepth 100000 in
theorem gRX10_47 : q_gf RX10 47 10 12 := ⟨_, _, _, rfl, by decide, q_inT10, q_mt_2 45 rfl rfl⟩
set_option maxRecDepth 100000 in
theorem gRX10_50 : q_gf RX10 50 10 13 := ⟨_, _, _, rfl, by decide, q_inT10, q_mt_2 46 rfl rfl⟩
set_option maxRecDepth 100000 in
theorem gRX10_56 : q_gf RX10 56 10 16 := ⟨_, _, _, rfl, by decide, q_inT10, q_mt_2 49 rfl rfl⟩
set_option maxRecDepth 100000 in
theorem gRX10_196 : q_gf RX10 196 8 5 := ⟨_, _, _, rfl, by decide, q_inT8, q_mt_2 123 rfl rfl⟩
set_option maxRecDepth 100000 in
theorem mX10_turnAt : q_mt yX10_turnAt cX10_turnAt 3 (some .boolean) 2 := ⟨q_mt_7 32 rfl rfl, q_mt_1 7 rfl rfl, ⟨q_ncRX10.1, q_ncRX10.2.1, by decide +kernel⟩, by decide⟩
set_option maxRecDepth 100000 in
theorem lRX10_199 : Cond.methodLink RX10 199 yX10_turnAt ∈ q_tb := q_mt_7 29 rfl rfl
set_option maxRecDepth 100000 in
theorem iX10_turnAt : Cond.instanceMethod yX10_turnAt ∈ q_tb := q_mt_7 31 rfl rfl
set_option maxRecDepth 100000 in
theorem eX10_turnAt : Cond.selects (yX10_turnAt).cls yX10_turnAt yX10_turnAt ∈ q_tb := q_ms 71 rfl rfl
set_option maxRecDepth 100000 in
theorem gRX10_59 : q_gf RX10 59 10 17 := ⟨_, _, _, rfl, by decide, q_inT10, q_mt_2 50 rfl rfl⟩
set_option maxRecDepth 100000 in
theorem mX10_isFound : q_mt yX10_isFound cX10_isFound 2 (some .boolean) 0 := ⟨q_mt_7 36 rfl rfl, q_mt_1 7 rfl rfl, ⟨q_ncRX10.1, q_ncRX10.2.1, by decide +kernel⟩, by decide⟩
set_option maxRecDepth 100000 in
theorem lRX10_203 : Cond.methodLink RX10 203 yX10_isFound ∈ q_tb := q_mt_7 33 rfl rfl
set_option maxRecDepth 100000 in
theorem iX10_isFound : Cond.instanceMethod yX10_isFound ∈ q_tb := q_mt_7 35 rfl rfl
set_option maxRecDepth 100000 in
theorem eX10_isFound : Cond.selects (yX10_isFound).cls yX10_isFound yX10_isFound ∈ q_tb := q_ms 72 rfl rfl
set_option maxRecDepth 100000 in
theorem kRX10_206 : Jvm.Cond.constant RX10 206 (-100005) ∈ q_tb := q_mt_7 37 rfl rfl
set_option maxRecDepth 100000 in
theorem gRX7_15 : q_gf RX7 15 7 0 := ⟨_, _, _, rfl, by decide, q_inT7, q_mt_2 179 rfl rfl⟩
set_option maxRecDepth 100000 in
theorem pRX7_15 : q_pf RX7 15 7 0 .boolean := ⟨_, _, _, tyX7, rfl, by decide, q_inT7, q_mt_2 179 rfl rfl, tyX7_ok, nmX7, rfl, tyX7_ok 0 (by decide)⟩
set_option maxRecDepth 100000 in
theorem gRX7_19 : q_gf RX7 19 7 1 := ⟨_, _, _, rfl, by decide, q_inT7, q_mt_2 181 rfl rfl⟩
set_option maxRecDepth 100000 in
theorem pRX7_19 : q_pf RX7 19 7 1 .int := ⟨_, _, _, tyX7, rfl, by decide, q_inT7, q_mt_2 181 rfl rfl, tyX7_ok, nmX7, rfl, tyX7_ok 1 (by decide)⟩
set_option maxRecDepth 100000 in
theorem gRX7_23 : q_gf RX7 23 7 2 := ⟨_, _, _, rfl, by decide, q_inT7, q_mt_2 183 rfl rfl⟩
set_option maxRecDepth 100000 in
theorem pRX7_23 : q_pf RX7 23 7 2 .int := ⟨_, _, _, tyX7, rfl, by decide, q_inT7, q_mt_2 183 rfl rfl, tyX7_ok, nmX7, rfl, tyX7_ok 2 (by decide)⟩
set_option maxRecDepth 100000 in
theorem gRX7_9 : q_gf RX7 9 7 3 := ⟨_, _, _, rfl, by decide, q_inT7, q_mt_2 185 rfl rfl⟩
set_option maxRecDepth 100000 in
theorem lRX7_26 : Cond.methodLink RX7 26 yJ7_fill_53178 ∈ q_tb := q_mt_7 91 rfl rfl
set_option maxRecDepth 100000 in
theorem mX12_in : q_mt yX12_in cX12_in 6 (some .boolean) 3 := ⟨q_mt_9 28 rfl rfl, q_mt_1 14 rfl rfl, ⟨q_ncRX12.1, q_ncRX12.2.1, by decide +kernel⟩, by decide⟩
set_option maxRecDepth 100000 in
theorem lRX12_307 : Cond.methodLink RX12 307 yX12_in ∈ q_tb := q_mt_9 26 rfl rfl
set_option maxRecDepth 100000 in
theorem sX12_in : Cond.static yX12_in ∈ q_tb := q_mt_9 27 rfl rfl
set_option maxRecDepth 100000 in
theorem mX12_isTelling : q_mt yX12_isTelling cX12_isTelling 1 (some .boolean) 1 := ⟨q_mt_9 25 rfl rfl, q_mt_1 14 rfl rfl, ⟨q_ncRX12.1, q_ncRX12.2.1, by decide +kernel⟩, by decide⟩
set_option maxRecDepth 100000 in
theorem lRX12_311 : Cond.methodLink RX12 311 yX12_isTelling ∈ q_tb := q_mt_9 23 rfl rfl
set_option maxRecDepth 100000 in
theorem sX12_isTelling : Cond.static yX12_isTelling ∈ q_tb := q_mt_9 24 rfl rfl
set_option maxRecDepth 100000 in
theorem gRX12_13 : q_gf RX12 13 12 1 := ⟨_, _, _, rfl, by decide, q_inT12, q_mt_7 121 rfl rfl⟩
set_option maxRecDepth 100000 in
theorem kRX12_315 : Jvm.Cond.constant RX12 315 (-100001) ∈ q_tb := q_mt_9 29 rfl rfl
set_option maxRecDepth 100000 in
theorem wRX12_316 : Jvm.Cond.constantLong RX12 316 (11) ∈ q_tb := q_mt_9 30 rfl rfl
set_option maxRecDepth 100000 in
theorem wRX12_318 : Jvm.Cond.constantLong RX12 318 (9) ∈ q_tb := q_mt_9 31 rfl rfl
set_option maxRecDepth 100000 in
theorem kRX12_320 : Jvm.Cond.constant RX12 320 (-100002) ∈ q_tb := q_mt_9 32 rfl rfl
set_option maxRecDepth 100000 in
theorem gRX12_7 : q_gf RX12 7 12 0 := ⟨_, _, _, rfl, by decide, q_inT12, q_mt_7 120 rfl rfl⟩
set_option maxRecDepth 100000 in
theorem wRX12_321 : Jvm.Cond.constantLong RX12 321 (60) ∈ q_tb := q_mt_9 46 rfl rfl
set_option maxRecDepth 100000 in
theorem wRX12_323 : Jvm.Cond.constantLong RX12 323 (65) ∈ q_tb := q_mt_9 47 rfl rfl
set_option maxRecDepth 100000 in
theorem mX12_isWord : q_mt yX12_isWord cX12_isWord 1 (some .boolean) 1 := ⟨q_mt_9 42 rfl rfl, q_mt_1 14 rfl rfl, ⟨q_ncRX12.1, q_ncRX12.2.1, by decide +kernel⟩, by decide⟩
set_option maxRecDepth 100000 in
theorem lRX12_325 : Cond.methodLink RX12 325 yX12_isWord ∈ q_tb := q_mt_9 40 rfl rfl
set_option maxRecDepth 100000 in
theorem sX12_isWord : Cond.static yX12_isWord ∈ q_tb := q_mt_9 41 rfl rfl
set_option maxRecDepth 100000 in
theorem mX12_isSort : q_mt yX12_isSort cX12_isSort 1 (some .boolean) 1 := ⟨q_mt_9 45 rfl rfl, q_mt_1 14 rfl rfl, ⟨q_ncRX12.1, q_ncRX12.2.1, by decide +kernel⟩, by decide⟩
set_option maxRecDepth 100000 in
theorem lRX12_328 : Cond.methodLink RX12 328 yX12_isSort ∈ q_tb := q_mt_9 43 rfl rfl
set_option maxRecDepth 100000 in
theorem sX12_isSort : Cond.static yX12_isSort ∈ q_tb := q_mt_9 44 rfl rfl
set_option maxRecDepth 100000 in
theorem gRX12_47 : q_gf RX12 47 12 12 := ⟨_, _, _, rfl, by decide, q_inT12, q_mt_7 132 rfl rfl⟩
set_option maxRecDepth 100000 in
theorem mX12_isItem : q_mt yX12_isItem cX12_isItem 1 (some .boolean) 1 := ⟨q_mt_9 39 rfl rfl, q_mt_1 14 rfl rfl, ⟨q_ncRX12.1, q_ncRX12.2.1, by decide +kernel⟩, by decide⟩
set_option maxRecDepth 100000 in
theorem lRX12_331 : Cond.methodLink RX12 331 yX12_isItem ∈ q_tb := q_mt_9 37 rfl rfl
set_option maxRecDepth 100000 in
theorem sX12_isItem : Cond.static yX12_isItem ∈ q_tb := q_mt_9 38 rfl rfl
set_option maxRecDepth 100000 in
theorem wRX12_334 : Jvm.Cond.constantLong RX12 334 (5) ∈ q_tb := q_mt_9 48 rfl rfl
set_option maxRecDepth 100000 in
theorem kRX12_336 : Jvm.Cond.constant RX12 336 (-100004) ∈ q_tb := q_mt_9 49 rfl rfl
set_option maxRecDepth 100000 in
theorem gRX12_16 : q_gf RX12 16 12 2 := ⟨_, _, _, rfl, by decide, q_inT12, q_mt_7 122 rfl rfl⟩
set_option maxRecDepth 100000 in
theorem gRX12_19 : q_gf RX12 19 12 3 := ⟨_, _, _, rfl, by decide, q_inT12, q_mt_7 123 rfl rfl⟩
set_option maxRecDepth 100000 in
theorem gRX12_22 : q_gf RX12 22 12 4 := ⟨_, _, _, rfl, by decide, q_inT12, q_mt_7 124 rfl rfl⟩
set_option maxRecDepth 100000 in
theorem gRX12_25 : q_gf RX12 25 12 5 := ⟨_, _, _, rfl, by decide, q_inT12, q_mt_7 125 rfl rfl⟩
set_option maxRecDepth 100000 in
theorem gRX12_28 : q_gf RX12 28 12 6 := ⟨_, _, _, rfl, by decide, q_inT12, q_mt_7 126 rfl rfl⟩
set_option maxRecDepth 100000 in
theorem gRX12_31 : q_gf RX12 31 12 7 := ⟨_, _, _, rfl, by decide, q_inT12, q_mt_7 127 rfl rfl⟩
set_option maxRecDepth 100000 in
theorem gRX12_35 : q_gf RX12 35 12 8 := ⟨_, _, _, rfl, by decide, q_inT12, q_mt_7 128 rfl rfl⟩
set_option maxRecDepth 100000 in
theorem gRX12_44 : q_gf RX12 44 12 11 := ⟨_, _, _, rfl, by decide, q_inT12, q_mt_7 131 rfl rfl⟩
set_option maxRecDepth 100000 in
theorem gRX12_56 : q_gf RX12 56 12 15 := ⟨_, _, _, rfl, by decide, q_inT12, q_mt_7 135 rfl rfl⟩
set_option maxRecDepth 100000 in
theorem gRX12_337 : q_gf RX12 337 12 103 := ⟨_, _, _, rfl, by decide, q_inT12, q_mt_7 223 rfl rfl⟩
set_option maxRecDepth 100000 in
theorem pRX12_337 : q_pf RX12 337 12 103 .int := ⟨_, _, _, tyX12, rfl, by decide, q_inT12, q_mt_7 223 rfl rfl, tyX12_ok, nmX12, rfl, tyX12_ok 103 (by decide)⟩
set_option maxRecDepth 100000 in
theorem gRX12_256 : q_gf RX12 256 12 104 := ⟨_, _, _, rfl, by decide, q_inT12, q_mt_7 224 rfl rfl⟩
set_option maxRecDepth 100000 in
theorem gRX12_289 : q_gf RX12 289 12 118 := ⟨_, _, _, rfl, by decide, q_inT12, q_mt_7 238 rfl rfl⟩
set_option maxRecDepth 100000 in
theorem mX12_isForm : q_mt yX12_isForm cX12_isForm 3 (some .boolean) 2 := ⟨q_mt_9 61 rfl rfl, q_mt_1 14 rfl rfl, ⟨q_ncRX12.1, q_ncRX12.2.1, by decide +kernel⟩, by decide⟩
set_option maxRecDepth 100000 in
theorem lRX12_341 : Cond.methodLink RX12 341 yX12_isForm ∈ q_tb := q_mt_9 58 rfl rfl
set_option maxRecDepth 100000 in
theorem iX12_isForm : Cond.instanceMethod yX12_isForm ∈ q_tb := q_mt_9 60 rfl rfl
set_option maxRecDepth 100000 in
theorem eX12_isForm : Cond.selects (yX12_isForm).cls yX12_isForm yX12_isForm ∈ q_tb := q_ms 76 rfl rfl
set_option maxRecDepth 100000 in
theorem mX12_slotsOf : q_mt yX12_slotsOf cX12_slotsOf 4 (some .int) 1 := ⟨q_mt_9 65 rfl rfl, q_mt_1 14 rfl rfl, ⟨q_ncRX12.1, q_ncRX12.2.1, by decide +kernel⟩, by decide⟩
set_option maxRecDepth 100000 in
theorem lRX12_345 : Cond.methodLink RX12 345 yX12_slotsOf ∈ q_tb := q_mt_9 62 rfl rfl
set_option maxRecDepth 100000 in
theorem iX12_slotsOf : Cond.instanceMethod yX12_slotsOf ∈ q_tb := q_mt_9 64 rfl rfl
set_option maxRecDepth 100000 in
theorem eX12_slotsOf : Cond.selects (yX12_slotsOf).cls yX12_slotsOf yX12_slotsOf ∈ q_tb := q_ms 77 rfl rfl
set_option maxRecDepth 100000 in
theorem wRX12_349 : Jvm.Cond.constantLong RX12 349 (2) ∈ q_tb := q_mt_9 70 rfl rfl
set_option maxRecDepth 100000 in
theorem mX12_slotItem : q_mt yX12_slotItem cX12_slotItem 5 (some .int) 2 := ⟨q_mt_9 78 rfl rfl, q_mt_1 14 rfl rfl, ⟨q_ncRX12.1, q_ncRX12.2.1, by decide +kernel⟩, by decide⟩
set_option maxRecDepth 100000 in
theorem lRX12_351 : Cond.methodLink RX12 351 yX12_slotItem ∈ q_tb := q_mt_9 75 rfl rfl
set_option maxRecDepth 100000 in
theorem iX12_slotItem : Cond.instanceMethod yX12_slotItem ∈ q_tb := q_mt_9 77 rfl rfl
set_option maxRecDepth 100000 in
theorem eX12_slotItem : Cond.selects (yX12_slotItem).cls yX12_slotItem yX12_slotItem ∈ q_tb := q_ms 78 rfl rfl
set_option maxRecDepth 100000 in
theorem kRX12_355 : Jvm.Cond.constant RX12 355 (-100003) ∈ q_tb := q_mt_9 79 rfl rfl
set_option maxRecDepth 100000 in
theorem wRX12_356 : Jvm.Cond.constantLong RX12 356 (10) ∈ q_tb := q_mt_9 88 rfl rfl
set_option maxRecDepth 100000 in
theorem wRX12_358 : Jvm.Cond.constantLong RX12 358 (-1) ∈ q_tb := q_mt_9 89 rfl rfl
set_option maxRecDepth 100000 in
theorem gRX12_38 : q_gf RX12 38 12 9 := ⟨_, _, _, rfl, by decide, q_inT12, q_mt_7 129 rfl rfl⟩
set_option maxRecDepth 100000 in
theorem gRX12_41 : q_gf RX12 41 12 10 := ⟨_, _, _, rfl, by decide, q_inT12, q_mt_7 130 rfl rfl⟩
set_option maxRecDepth 100000 in
theorem wRX12_360 : Jvm.Cond.constantLong RX12 360 (7) ∈ q_tb := q_mt_9 98 rfl rfl
set_option maxRecDepth 100000 in
theorem gRX12_262 : q_gf RX12 262 12 106 := ⟨_, _, _, rfl, by decide, q_inT12, q_mt_7 226 rfl rfl⟩
set_option maxRecDepth 100000 in
theorem gRX12_295 : q_gf RX12 295 12 122 := ⟨_, _, _, rfl, by decide, q_inT12, q_mt_8 2 rfl rfl⟩
set_option maxRecDepth 100000 in
theorem mX12_mapMany : q_mt yX12_mapMany cX12_mapMany 3 (some .int) 0 := ⟨q_mt_9 106 rfl rfl, q_mt_1 14 rfl rfl, ⟨q_ncRX12.1, q_ncRX12.2.1, by decide +kernel⟩, by decide⟩
set_option maxRecDepth 100000 in
theorem lRX12_362 : Cond.methodLink RX12 362 yX12_mapMany ∈ q_tb := q_mt_9 103 rfl rfl
set_option maxRecDepth 100000 in
theorem iX12_mapMany : Cond.instanceMethod yX12_mapMany ∈ q_tb := q_mt_9 105 rfl rfl
set_option maxRecDepth 100000 in
theorem eX12_mapMany : Cond.selects (yX12_mapMany).cls yX12_mapMany yX12_mapMany ∈ q_tb := q_ms 79 rfl rfl
set_option maxRecDepth 100000 in
theorem wRX12_366 : Jvm.Cond.constantLong RX12 366 (20) ∈ q_tb := q_mt_9 117 rfl rfl
set_option maxRecDepth 100000 in
theorem wRX12_368 : Jvm.Cond.constantLong RX12 368 (35) ∈ q_tb := q_mt_9 118 rfl rfl
set_option maxRecDepth 100000 in
theorem wRX12_370 : Jvm.Cond.constantLong RX12 370 (40) ∈ q_tb := q_mt_9 119 rfl rfl
set_option maxRecDepth 100000 in
theorem wRX12_372 : Jvm.Cond.constantLong RX12 372 (139) ∈ q_tb := q_mt_9 120 rfl rfl
set_option maxRecDepth 100000 in
theorem mX12_isText : q_mt yX12_isText cX12_isText 1 (some .boolean) 1 := ⟨q_mt_9 113 rfl rfl, q_mt_1 14 rfl rfl, ⟨q_ncRX12.1, q_ncRX12.2.1, by decide +kernel⟩, by decide⟩
set_option maxRecDepth 100000 in
theorem lRX12_374 : Cond.methodLink RX12 374 yX12_isText ∈ q_tb := q_mt_9 111 rfl rfl
set_option maxRecDepth 100000 in
theorem sX12_isText : Cond.static yX12_isText ∈ q_tb := q_mt_9 112 rfl rfl
set_option maxRecDepth 100000 in
theorem mX12_isCode : q_mt yX12_isCode cX12_isCode 1 (some .boolean) 1 := ⟨q_mt_9 116 rfl rfl, q_mt_1 14 rfl rfl, ⟨q_ncRX12.1, q_ncRX12.2.1, by decide +kernel⟩, by decide⟩
set_option maxRecDepth 100000 in
theorem lRX12_377 : Cond.methodLink RX12 377 yX12_isCode ∈ q_tb := q_mt_9 114 rfl rfl
set_option maxRecDepth 100000 in
theorem sX12_isCode : Cond.static yX12_isCode ∈ q_tb := q_mt_9 115 rfl rfl
set_option maxRecDepth 100000 in
theorem gRX12_53 : q_gf RX12 53 12 14 := ⟨_, _, _, rfl, by decide, q_inT12, q_mt_7 134 rfl rfl⟩
set_option maxRecDepth 100000 in
theorem gRX12_50 : q_gf RX12 50 12 13 := ⟨_, _, _, rfl, by decide, q_inT12, q_mt_7 133 rfl rfl⟩
set_option maxRecDepth 100000 in
theorem gRX12_59 : q_gf RX12 59 12 16 := ⟨_, _, _, rfl, by decide, q_inT12, q_mt_7 136 rfl rfl⟩
set_option maxRecDepth 100000 in
theorem gRX12_62 : q_gf RX12 62 12 17 := ⟨_, _, _, rfl, by decide, q_inT12, q_mt_7 137 rfl rfl⟩
set_option maxRecDepth 100000 in
theorem gRX12_380 : q_gf RX12 380 12 22 := ⟨_, _, _, rfl, by decide, q_inT12, q_mt_7 142 rfl rfl⟩
set_option maxRecDepth 100000 in
theorem pRX12_380 : q_pf RX12 380 12 22 .boolean := ⟨_, _, _, tyX12, rfl, by decide, q_inT12, q_mt_7 142 rfl rfl, tyX12_ok, nmX12, rfl, tyX12_ok 22 (by decide)⟩
set_option maxRecDepth 100000 in
theorem gRX12_65 : q_gf RX12 65 12 18 := ⟨_, _, _, rfl, by decide, q_inT12, q_mt_7 138 rfl rfl⟩
set_option maxRecDepth 100000 in
theorem gRX12_68 : q_gf RX12 68 12 19 := ⟨_, _, _, rfl, by decide, q_inT12, q_mt_7 139 rfl rfl⟩
set_option maxRecDepth 100000 in
theorem gRX12_74 : q_gf RX12 74 12 21 := ⟨_, _, _, rfl, by decide, q_inT12, q_mt_7 141 rfl rfl⟩
set_option maxRecDepth 100000 in
theorem gRX12_71 : q_gf RX12 71 12 20 := ⟨_, _, _, rfl, by decide, q_inT12, q_mt_7 140 rfl rfl⟩
set_option maxRecDepth 100000 in
theorem mX12_endOf : q_mt yX12_endOf cX12_endOf 4 (some .int) 2 := ⟨q_mt_10 72 rfl rfl, q_mt_1 14 rfl rfl, ⟨q_ncRX12.1, q_ncRX12.2.1, by decide +kernel⟩, by decide⟩
set_option maxRecDepth 100000 in
theorem lRX12_384 : Cond.methodLink RX12 384 yX12_endOf ∈ q_tb := q_mt_10 69 rfl rfl
set_option maxRecDepth 100000 in
theorem iX12_endOf : Cond.instanceMethod yX12_endOf ∈ q_tb := q_mt_10 71 rfl rfl
set_option maxRecDepth 100000 in
theorem eX12_endOf : Cond.selects (yX12_endOf).cls yX12_endOf yX12_endOf ∈ q_tb := q_ms 111 rfl rfl
set_option maxRecDepth 100000 in
theorem mX12_formAt : q_mt yX12_formAt cX12_formAt 3 (some .int) 2 := ⟨q_mt_10 56 rfl rfl, q_mt_1 14 rfl rfl, ⟨q_ncRX12.1, q_ncRX12.2.1, by decide +kernel⟩, by decide⟩
set_option maxRecDepth 100000 in
theorem lRX12_387 : Cond.methodLink RX12 387 yX12_formAt ∈ q_tb := q_mt_10 53 rfl rfl
set_option maxRecDepth 100000 in
theorem iX12_formAt : Cond.instanceMethod yX12_formAt ∈ q_tb := q_mt_10 55 rfl rfl
set_option maxRecDepth 100000 in
theorem eX12_formAt : Cond.selects (yX12_formAt).cls yX12_formAt yX12_formAt ∈ q_tb := q_ms 108 rfl rfl
set_option maxRecDepth 100000 in
theorem mX12_slotAt : q_mt yX12_slotAt cX12_slotAt 4 (some .int) 3 := ⟨q_mt_10 60 rfl rfl, q_mt_1 14 rfl rfl, ⟨q_ncRX12.1, q_ncRX12.2.1, by decide +kernel⟩, by decide⟩
set_option maxRecDepth 100000 in
theorem lRX12_390 : Cond.methodLink RX12 390 yX12_slotAt ∈ q_tb := q_mt_10 57 rfl rfl
set_option maxRecDepth 100000 in
theorem iX12_slotAt : Cond.instanceMethod yX12_slotAt ∈ q_tb := q_mt_10 59 rfl rfl
set_option maxRecDepth 100000 in
theorem eX12_slotAt : Cond.selects (yX12_slotAt).cls yX12_slotAt yX12_slotAt ∈ q_tb := q_ms 109 rfl rfl
set_option maxRecDepth 100000 in
theorem gRX12_77 : q_gf RX12 77 12 24 := ⟨_, _, _, rfl, by decide, q_inT12, q_mt_7 144 rfl rfl⟩
set_option maxRecDepth 100000 in
theorem gRX12_394 : q_gf RX12 394 12 23 := ⟨_, _, _, rfl, by decide, q_inT12, q_mt_7 143 rfl rfl⟩
set_option maxRecDepth 100000 in
theorem gRX12_80 : q_gf RX12 80 12 25 := ⟨_, _, _, rfl, by decide, q_inT12, q_mt_7 145 rfl rfl⟩
set_option maxRecDepth 100000 in
theorem gRX12_83 : q_gf RX12 83 12 26 := ⟨_, _, _, rfl, by decide, q_inT12, q_mt_7 146 rfl rfl⟩
set_option maxRecDepth 100000 in
theorem gRX12_86 : q_gf RX12 86 12 27 := ⟨_, _, _, rfl, by decide, q_inT12, q_mt_7 147 rfl rfl⟩
set_option maxRecDepth 100000 in
theorem gRX12_89 : q_gf RX12 89 12 28 := ⟨_, _, _, rfl, by decide, q_inT12, q_mt_7 148 rfl rfl⟩
set_option maxRecDepth 100000 in
theorem pRX12_394 : q_pf RX12 394 12 23 .int := ⟨_, _, _, tyX12, rfl, by decide, q_inT12, q_mt_7 143 rfl rfl, tyX12_ok, nmX12, rfl, tyX12_ok 23 (by decide)⟩
set_option maxRecDepth 100000 in
theorem gRX12_397 : q_gf RX12 397 12 33 := ⟨_, _, _, rfl, by decide, q_inT12, q_mt_7 153 rfl rfl⟩
set_option maxRecDepth 100000 in
theorem mX12_fitsAt : q_mt yX12_fitsAt cX12_fitsAt 8 (some .boolean) 3 := ⟨q_mt_10 204 rfl rfl, q_mt_1 14 rfl rfl, ⟨q_ncRX12.1, q_ncRX12.2.1, by decide +kernel⟩, by decide⟩
set_option maxRecDepth 100000 in
theorem gRX12_400 : q_gf RX12 400 12 31 := ⟨_, _, _, rfl, by decide, q_inT12, q_mt_7 151 rfl rfl⟩
set_option maxRecDepth 100000 in
theorem gRX12_403 : q_gf RX12 403 12 32 := ⟨_, _, _, rfl, by decide, q_inT12, q_mt_7 152 rfl rfl⟩
set_option maxRecDepth 100000 in
theorem lRX12_406 : Cond.methodLink RX12 406 yX12_fitsAt ∈ q_tb := q_mt_10 201 rfl rfl
set_option maxRecDepth 100000 in
theorem iX12_fitsAt : Cond.instanceMethod yX12_fitsAt ∈ q_tb := q_mt_10 203 rfl rfl
set_option maxRecDepth 100000 in
theorem eX12_fitsAt : Cond.selects (yX12_fitsAt).cls yX12_fitsAt yX12_fitsAt ∈ q_tb := q_ms 130 rfl rfl
set_option maxRecDepth 100000 in
theorem mX12_await0 : q_mt yX12_await0 cX12_await0 6 none 5 := ⟨q_mt_10 192 rfl rfl, q_mt_1 14 rfl rfl, ⟨q_ncRX12.1, q_ncRX12.2.1, by decide +kernel⟩, by decide⟩
set_option maxRecDepth 100000 in
theorem gRX12_92 : q_gf RX12 92 12 29 := ⟨_, _, _, rfl, by decide, q_inT12, q_mt_7 149 rfl rfl⟩
set_option maxRecDepth 100000 in
theorem gRX12_95 : q_gf RX12 95 12 30 := ⟨_, _, _, rfl, by decide, q_inT12, q_mt_7 150 rfl rfl⟩
set_option maxRecDepth 100000 in
theorem lRX12_410 : Cond.methodLink RX12 410 yX12_await0 ∈ q_tb := q_mt_10 189 rfl rfl
set_option maxRecDepth 100000 in
theorem iX12_await0 : Cond.instanceMethod yX12_await0 ∈ q_tb := q_mt_10 191 rfl rfl
set_option maxRecDepth 100000 in
theorem eX12_await0 : Cond.selects (yX12_await0).cls yX12_await0 yX12_await0 ∈ q_tb := q_ms 127 rfl rfl
set_option maxRecDepth 100000 in
theorem mX12_putLeaf : q_mt yX12_putLeaf cX12_putLeaf 5 none 4 := ⟨q_mt_9 189 rfl rfl, q_mt_1 14 rfl rfl, ⟨q_ncRX12.1, q_ncRX12.2.1, by decide +kernel⟩, by decide⟩
set_option maxRecDepth 100000 in
theorem lRX12_414 : Cond.methodLink RX12 414 yX12_putLeaf ∈ q_tb := q_mt_9 186 rfl rfl
set_option maxRecDepth 100000 in
theorem iX12_putLeaf : Cond.instanceMethod yX12_putLeaf ∈ q_tb := q_mt_9 188 rfl rfl
set_option maxRecDepth 100000 in
theorem eX12_putLeaf : Cond.selects (yX12_putLeaf).cls yX12_putLeaf yX12_putLeaf ∈ q_tb := q_ms 89 rfl rfl
set_option maxRecDepth 100000 in
theorem mX12_fitsHere : q_mt yX12_fitsHere cX12_fitsHere 3 (some .boolean) 2 := ⟨q_mt_10 200 rfl rfl, q_mt_1 14 rfl rfl, ⟨q_ncRX12.1, q_ncRX12.2.1, by decide +kernel⟩, by decide⟩
set_option maxRecDepth 100000 in
theorem lRX12_418 : Cond.methodLink RX12 418 yX12_fitsHere ∈ q_tb := q_mt_10 197 rfl rfl
set_option maxRecDepth 100000 in
theorem iX12_fitsHere : Cond.instanceMethod yX12_fitsHere ∈ q_tb := q_mt_10 199 rfl rfl
set_option maxRecDepth 100000 in
theorem eX12_fitsHere : Cond.selects (yX12_fitsHere).cls yX12_fitsHere yX12_fitsHere ∈ q_tb := q_ms 129 rfl rfl
set_option maxRecDepth 100000 in
theorem gRX12_421 : q_gf RX12 421 12 34 := ⟨_, _, _, rfl, by decide, q_inT12, q_mt_7 154 rfl rfl⟩
set_option maxRecDepth 100000 in
theorem pRX12_421 : q_pf RX12 421 12 34 .int := ⟨_, _, _, tyX12, rfl, by decide, q_inT12, q_mt_7 154 rfl rfl, tyX12_ok, nmX12, rfl, tyX12_ok 34 (by decide)⟩
set_option maxRecDepth 100000 in
theorem mX12_rootPiece : q_mt yX12_rootPiece cX12_rootPiece 2 (some .int) 1 := ⟨q_mt_10 208 rfl rfl, q_mt_1 14 rfl rfl, ⟨q_ncRX12.1, q_ncRX12.2.1, by decide +kernel⟩, by decide⟩
set_option maxRecDepth 100000 in
theorem lRX12_424 : Cond.methodLink RX12 424 yX12_rootPiece ∈ q_tb := q_mt_10 205 rfl rfl
set_option maxRecDepth 100000 in
theorem iX12_rootPiece : Cond.instanceMethod yX12_rootPiece ∈ q_tb := q_mt_10 207 rfl rfl
set_option maxRecDepth 100000 in
theorem eX12_rootPiece : Cond.selects (yX12_rootPiece).cls yX12_rootPiece yX12_rootPiece ∈ q_tb := q_ms 131 rfl rfl
set_option maxRecDepth 100000 in
theorem mX12_newNode : q_mt yX12_newNode cX12_newNode 6 (some .int) 4 := ⟨q_mt_9 185 rfl rfl, q_mt_1 14 rfl rfl, ⟨q_ncRX12.1, q_ncRX12.2.1, by decide +kernel⟩, by decide⟩
set_option maxRecDepth 100000 in
theorem lRX12_427 : Cond.methodLink RX12 427 yX12_newNode ∈ q_tb := q_mt_9 182 rfl rfl
set_option maxRecDepth 100000 in
theorem iX12_newNode : Cond.instanceMethod yX12_newNode ∈ q_tb := q_mt_9 184 rfl rfl
set_option maxRecDepth 100000 in
theorem eX12_newNode : Cond.selects (yX12_newNode).cls yX12_newNode yX12_newNode ∈ q_tb := q_ms 88 rfl rfl
set_option maxRecDepth 100000 in
theorem gRX12_98 : q_gf RX12 98 12 36 := ⟨_, _, _, rfl, by decide, q_inT12, q_mt_7 156 rfl rfl⟩
set_option maxRecDepth 100000 in
theorem gRX12_431 : q_gf RX12 431 12 35 := ⟨_, _, _, rfl, by decide, q_inT12, q_mt_7 155 rfl rfl⟩
set_option maxRecDepth 100000 in
theorem gRX12_101 : q_gf RX12 101 12 37 := ⟨_, _, _, rfl, by decide, q_inT12, q_mt_7 157 rfl rfl⟩
set_option maxRecDepth 100000 in
theorem gRX12_104 : q_gf RX12 104 12 38 := ⟨_, _, _, rfl, by decide, q_inT12, q_mt_7 158 rfl rfl⟩
set_option maxRecDepth 100000 in
theorem pRX12_431 : q_pf RX12 431 12 35 .int := ⟨_, _, _, tyX12, rfl, by decide, q_inT12, q_mt_7 155 rfl rfl, tyX12_ok, nmX12, rfl, tyX12_ok 35 (by decide)⟩
set_option maxRecDepth 100000 in
theorem gRX12_434 : q_gf RX12 434 12 39 := ⟨_, _, _, rfl, by decide, q_inT12, q_mt_7 159 rfl rfl⟩
set_option maxRecDepth 100000 in
theorem pRX12_434 : q_pf RX12 434 12 39 .int := ⟨_, _, _, tyX12, rfl, by decide, q_inT12, q_mt_7 159 rfl rfl, tyX12_ok, nmX12, rfl, tyX12_ok 39 (by decide)⟩
set_option maxRecDepth 100000 in
theorem mX12_emit : q_mt yX12_emit cX12_emit 4 none 3 := ⟨q_mt_10 52 rfl rfl, q_mt_1 14 rfl rfl, ⟨q_ncRX12.1, q_ncRX12.2.1, by decide +kernel⟩, by decide⟩
set_option maxRecDepth 100000 in
theorem lRX12_437 : Cond.methodLink RX12 437 yX12_emit ∈ q_tb := q_mt_10 49 rfl rfl
set_option maxRecDepth 100000 in
theorem iX12_emit : Cond.instanceMethod yX12_emit ∈ q_tb := q_mt_10 51 rfl rfl
set_option maxRecDepth 100000 in
theorem eX12_emit : Cond.selects (yX12_emit).cls yX12_emit yX12_emit ∈ q_tb := q_ms 107 rfl rfl
set_option maxRecDepth 100000 in
theorem gRX12_116 : q_gf RX12 116 12 43 := ⟨_, _, _, rfl, by decide, q_inT12, q_mt_7 163 rfl rfl⟩
set_option maxRecDepth 100000 in
theorem gRX12_119 : q_gf RX12 119 12 44 := ⟨_, _, _, rfl, by decide, q_inT12, q_mt_7 164 rfl rfl⟩
set_option maxRecDepth 100000 in
theorem gRX12_122 : q_gf RX12 122 12 45 := ⟨_, _, _, rfl, by decide, q_inT12, q_mt_7 165 rfl rfl⟩
set_option maxRecDepth 100000 in
theorem gRX12_107 : q_gf RX12 107 12 40 := ⟨_, _, _, rfl, by decide, q_inT12, q_mt_7 160 rfl rfl⟩
set_option maxRecDepth 100000 in
theorem gRX12_110 : q_gf RX12 110 12 41 := ⟨_, _, _, rfl, by decide, q_inT12, q_mt_7 161 rfl rfl⟩
set_option maxRecDepth 100000 in
theorem gRX12_113 : q_gf RX12 113 12 42 := ⟨_, _, _, rfl, by decide, q_inT12, q_mt_7 162 rfl rfl⟩
set_option maxRecDepth 100000 in
theorem gRX12_441 : q_gf RX12 441 12 47 := ⟨_, _, _, rfl, by decide, q_inT12, q_mt_7 167 rfl rfl⟩
set_option maxRecDepth 100000 in
theorem pRX12_441 : q_pf RX12 441 12 47 .int := ⟨_, _, _, tyX12, rfl, by decide, q_inT12, q_mt_7 167 rfl rfl, tyX12_ok, nmX12, rfl, tyX12_ok 47 (by decide)⟩
set_option maxRecDepth 100000 in
theorem gRX12_125 : q_gf RX12 125 12 46 := ⟨_, _, _, rfl, by decide, q_inT12, q_mt_7 166 rfl rfl⟩
set_option maxRecDepth 100000 in
theorem gRX12_128 : q_gf RX12 128 12 48 := ⟨_, _, _, rfl, by decide, q_inT12, q_mt_7 168 rfl rfl⟩
set_option maxRecDepth 100000 in
theorem mX12_fitsCell : q_mt yX12_fitsCell cX12_fitsCell 2 (some .boolean) 2 := ⟨q_mt_9 155 rfl rfl, q_mt_1 14 rfl rfl, ⟨q_ncRX12.1, q_ncRX12.2.1, by decide +kernel⟩, by decide⟩
set_option maxRecDepth 100000 in
theorem lRX12_444 : Cond.methodLink RX12 444 yX12_fitsCell ∈ q_tb := q_mt_9 153 rfl rfl
set_option maxRecDepth 100000 in
theorem sX12_fitsCell : Cond.static yX12_fitsCell ∈ q_tb := q_mt_9 154 rfl rfl
set_option maxRecDepth 100000 in
theorem gRX12_131 : q_gf RX12 131 12 49 := ⟨_, _, _, rfl, by decide, q_inT12, q_mt_7 169 rfl rfl⟩
set_option maxRecDepth 100000 in
theorem mX12_least : q_mt yX12_least cX12_least 2 (some .int) 2 := ⟨q_mt_9 158 rfl rfl, q_mt_1 14 rfl rfl, ⟨q_ncRX12.1, q_ncRX12.2.1, by decide +kernel⟩, by decide⟩
set_option maxRecDepth 100000 in
theorem mX12_itemWays : q_mt yX12_itemWays cX12_itemWays 4 (some .int) 3 := ⟨q_mt_9 152 rfl rfl, q_mt_1 14 rfl rfl, ⟨q_ncRX12.1, q_ncRX12.2.1, by decide +kernel⟩, by decide⟩
set_option maxRecDepth 100000 in
theorem lRX12_447 : Cond.methodLink RX12 447 yX12_itemWays ∈ q_tb := q_mt_9 149 rfl rfl
set_option maxRecDepth 100000 in
theorem iX12_itemWays : Cond.instanceMethod yX12_itemWays ∈ q_tb := q_mt_9 151 rfl rfl
set_option maxRecDepth 100000 in
theorem eX12_itemWays : Cond.selects (yX12_itemWays).cls yX12_itemWays yX12_itemWays ∈ q_tb := q_ms 83 rfl rfl
set_option maxRecDepth 100000 in
theorem lRX12_450 : Cond.methodLink RX12 450 yX12_least ∈ q_tb := q_mt_9 156 rfl rfl
set_option maxRecDepth 100000 in
theorem sX12_least : Cond.static yX12_least ∈ q_tb := q_mt_9 157 rfl rfl
set_option maxRecDepth 100000 in
theorem mX12_formWays : q_mt yX12_formWays cX12_formWays 10 (some .int) 3 := ⟨q_mt_9 148 rfl rfl, q_mt_1 14 rfl rfl, ⟨q_ncRX12.1, q_ncRX12.2.1, by decide +kernel⟩, by decide⟩
set_option maxRecDepth 100000 in
theorem lRX12_453 : Cond.methodLink RX12 453 yX12_formWays ∈ q_tb := q_mt_9 145 rfl rfl
set_option maxRecDepth 100000 in
theorem iX12_formWays : Cond.instanceMethod yX12_formWays ∈ q_tb := q_mt_9 147 rfl rfl
set_option maxRecDepth 100000 in
theorem eX12_formWays : Cond.selects (yX12_formWays).cls yX12_formWays yX12_formWays ∈ q_tb := q_ms 82 rfl rfl
set_option maxRecDepth 100000 in
theorem mX12_takeText : q_mt yX12_takeText cX12_takeText 3 none 1 := ⟨q_mt_9 140 rfl rfl, q_mt_1 14 rfl rfl, ⟨q_ncRX12.1, q_ncRX12.2.1, by decide +kernel⟩, by decide⟩
set_option maxRecDepth 100000 in
theorem lRX12_456 : Cond.methodLink RX12 456 yX12_takeText ∈ q_tb := q_mt_9 137 rfl rfl
set_option maxRecDepth 100000 in
theorem iX12_takeText : Cond.instanceMethod yX12_takeText ∈ q_tb := q_mt_9 139 rfl rfl
set_option maxRecDepth 100000 in
theorem eX12_takeText : Cond.selects (yX12_takeText).cls yX12_takeText yX12_takeText ∈ q_tb := q_ms 80 rfl rfl
set_option maxRecDepth 100000 in
theorem mX12_findWays : q_mt yX12_findWays cX12_findWays 7 none 1 := ⟨q_mt_9 144 rfl rfl, q_mt_1 14 rfl rfl, ⟨q_ncRX12.1, q_ncRX12.2.1, by decide +kernel⟩, by decide⟩
set_option maxRecDepth 100000 in
theorem lRX12_460 : Cond.methodLink RX12 460 yX12_findWays ∈ q_tb := q_mt_9 141 rfl rfl
set_option maxRecDepth 100000 in
theorem iX12_findWays : Cond.instanceMethod yX12_findWays ∈ q_tb := q_mt_9 143 rfl rfl
set_option maxRecDepth 100000 in
theorem eX12_findWays : Cond.selects (yX12_findWays).cls yX12_findWays yX12_findWays ∈ q_tb := q_ms 81 rfl rfl
set_option maxRecDepth 100000 in
theorem gRX12_134 : q_gf RX12 134 12 51 := ⟨_, _, _, rfl, by decide, q_inT12, q_mt_7 171 rfl rfl⟩
set_option maxRecDepth 100000 in
theorem gRX12_463 : q_gf RX12 463 12 50 := ⟨_, _, _, rfl, by decide, q_inT12, q_mt_7 170 rfl rfl⟩
set_option maxRecDepth 100000 in
theorem gRX12_137 : q_gf RX12 137 12 52 := ⟨_, _, _, rfl, by decide, q_inT12, q_mt_7 172 rfl rfl⟩
set_option maxRecDepth 100000 in
theorem gRX12_140 : q_gf RX12 140 12 53 := ⟨_, _, _, rfl, by decide, q_inT12, q_mt_7 173 rfl rfl⟩
set_option maxRecDepth 100000 in
theorem gRX12_143 : q_gf RX12 143 12 54 := ⟨_, _, _, rfl, by decide, q_inT12, q_mt_7 174 rfl rfl⟩
set_option maxRecDepth 100000 in
theorem gRX12_146 : q_gf RX12 146 12 55 := ⟨_, _, _, rfl, by decide, q_inT12, q_mt_7 175 rfl rfl⟩
set_option maxRecDepth 100000 in
theorem pRX12_463 : q_pf RX12 463 12 50 .int := ⟨_, _, _, tyX12, rfl, by decide, q_inT12, q_mt_7 170 rfl rfl, tyX12_ok, nmX12, rfl, tyX12_ok 50 (by decide)⟩
set_option maxRecDepth 100000 in
theorem mX12_begin : q_mt yX12_begin cX12_begin 3 none 2 := ⟨q_mt_9 173 rfl rfl, q_mt_1 14 rfl rfl, ⟨q_ncRX12.1, q_ncRX12.2.1, by decide +kernel⟩, by decide⟩
set_option maxRecDepth 100000 in
theorem lRX12_466 : Cond.methodLink RX12 466 yX12_begin ∈ q_tb := q_mt_9 170 rfl rfl
set_option maxRecDepth 100000 in
theorem iX12_begin : Cond.instanceMethod yX12_begin ∈ q_tb := q_mt_9 172 rfl rfl
set_option maxRecDepth 100000 in
theorem eX12_begin : Cond.selects (yX12_begin).cls yX12_begin yX12_begin ∈ q_tb := q_ms 85 rfl rfl
set_option maxRecDepth 100000 in
theorem mX12_awaitPart : q_mt yX12_awaitPart cX12_awaitPart 6 none 5 := ⟨q_mt_9 177 rfl rfl, q_mt_1 14 rfl rfl, ⟨q_ncRX12.1, q_ncRX12.2.1, by decide +kernel⟩, by decide⟩
set_option maxRecDepth 100000 in
theorem lRX12_470 : Cond.methodLink RX12 470 yX12_awaitPart ∈ q_tb := q_mt_9 174 rfl rfl
set_option maxRecDepth 100000 in
theorem iX12_awaitPart : Cond.instanceMethod yX12_awaitPart ∈ q_tb := q_mt_9 176 rfl rfl
set_option maxRecDepth 100000 in
theorem eX12_awaitPart : Cond.selects (yX12_awaitPart).cls yX12_awaitPart yX12_awaitPart ∈ q_tb := q_ms 86 rfl rfl
set_option maxRecDepth 100000 in
theorem mX12_firstForm : q_mt yX12_firstForm cX12_firstForm 6 (some .int) 4 := ⟨q_mt_9 181 rfl rfl, q_mt_1 14 rfl rfl, ⟨q_ncRX12.1, q_ncRX12.2.1, by decide +kernel⟩, by decide⟩
set_option maxRecDepth 100000 in
theorem lRX12_473 : Cond.methodLink RX12 473 yX12_firstForm ∈ q_tb := q_mt_9 178 rfl rfl
set_option maxRecDepth 100000 in
theorem iX12_firstForm : Cond.instanceMethod yX12_firstForm ∈ q_tb := q_mt_9 180 rfl rfl
set_option maxRecDepth 100000 in
theorem eX12_firstForm : Cond.selects (yX12_firstForm).cls yX12_firstForm yX12_firstForm ∈ q_tb := q_ms 87 rfl rfl
set_option maxRecDepth 100000 in
theorem mX12_turnParts : q_mt yX12_turnParts cX12_turnParts 5 none 1 := ⟨q_mt_9 193 rfl rfl, q_mt_1 14 rfl rfl, ⟨q_ncRX12.1, q_ncRX12.2.1, by decide +kernel⟩, by decide⟩
set_option maxRecDepth 100000 in
theorem lRX12_476 : Cond.methodLink RX12 476 yX12_turnParts ∈ q_tb := q_mt_9 190 rfl rfl
set_option maxRecDepth 100000 in
theorem iX12_turnParts : Cond.instanceMethod yX12_turnParts ∈ q_tb := q_mt_9 192 rfl rfl
set_option maxRecDepth 100000 in
theorem eX12_turnParts : Cond.selects (yX12_turnParts).cls yX12_turnParts yX12_turnParts ∈ q_tb := q_ms 90 rfl rfl
set_option maxRecDepth 100000 in
theorem mX12_isPlace : q_mt yX12_isPlace cX12_isPlace 1 (some .boolean) 1 := ⟨q_mt_9 165 rfl rfl, q_mt_1 14 rfl rfl, ⟨q_ncRX12.1, q_ncRX12.2.1, by decide +kernel⟩, by decide⟩
set_option maxRecDepth 100000 in
theorem lRX12_479 : Cond.methodLink RX12 479 yX12_isPlace ∈ q_tb := q_mt_9 163 rfl rfl
set_option maxRecDepth 100000 in
theorem sX12_isPlace : Cond.static yX12_isPlace ∈ q_tb := q_mt_9 164 rfl rfl
set_option maxRecDepth 100000 in
theorem mX12_isTree : q_mt yX12_isTree cX12_isTree 2 (some .boolean) 1 := ⟨q_mt_10 44 rfl rfl, q_mt_1 14 rfl rfl, ⟨q_ncRX12.1, q_ncRX12.2.1, by decide +kernel⟩, by decide⟩
set_option maxRecDepth 100000 in
theorem lRX12_482 : Cond.methodLink RX12 482 yX12_isTree ∈ q_tb := q_mt_10 41 rfl rfl
set_option maxRecDepth 100000 in
theorem iX12_isTree : Cond.instanceMethod yX12_isTree ∈ q_tb := q_mt_10 43 rfl rfl
set_option maxRecDepth 100000 in
theorem eX12_isTree : Cond.selects (yX12_isTree).cls yX12_isTree yX12_isTree ∈ q_tb := q_ms 105 rfl rfl
set_option maxRecDepth 100000 in
theorem kRX12_485 : Jvm.Cond.constant RX12 485 (-100006) ∈ q_tb := q_mt_9 198 rfl rfl
set_option maxRecDepth 100000 in
theorem mX12_copyTree : q_mt yX12_copyTree cX12_copyTree 4 none 2 := ⟨q_mt_9 202 rfl rfl, q_mt_1 14 rfl rfl, ⟨q_ncRX12.1, q_ncRX12.2.1, by decide +kernel⟩, by decide⟩
set_option maxRecDepth 100000 in
theorem lRX12_486 : Cond.methodLink RX12 486 yX12_copyTree ∈ q_tb := q_mt_9 199 rfl rfl
set_option maxRecDepth 100000 in
theorem iX12_copyTree : Cond.instanceMethod yX12_copyTree ∈ q_tb := q_mt_9 201 rfl rfl
set_option maxRecDepth 100000 in
theorem eX12_copyTree : Cond.selects (yX12_copyTree).cls yX12_copyTree yX12_copyTree ∈ q_tb := q_ms 92 rfl rfl
set_option maxRecDepth 100000 in
theorem mX12_readInto : q_mt yX12_readInto cX12_readInto 12 none 2 := ⟨q_mt_9 169 rfl rfl, q_mt_1 14 rfl rfl, ⟨q_ncRX12.1, q_ncRX12.2.1, by decide +kernel⟩, by decide⟩
set_option maxRecDepth 100000 in
theorem lRX12_489 : Cond.methodLink RX12 489 yX12_readInto ∈ q_tb := q_mt_9 166 rfl rfl
set_option maxRecDepth 100000 in
theorem iX12_readInto : Cond.instanceMethod yX12_readInto ∈ q_tb := q_mt_9 168 rfl rfl
set_option maxRecDepth 100000 in
theorem eX12_readInto : Cond.selects (yX12_readInto).cls yX12_readInto yX12_readInto ∈ q_tb := q_ms 84 rfl rfl
set_option maxRecDepth 100000 in
theorem mX12_settle : q_mt yX12_settle cX12_settle 3 (some .int) 2 := ⟨q_mt_9 197 rfl rfl, q_mt_1 14 rfl rfl, ⟨q_ncRX12.1, q_ncRX12.2.1, by decide +kernel⟩, by decide⟩
set_option maxRecDepth 100000 in
theorem lRX12_492 : Cond.methodLink RX12 492 yX12_settle ∈ q_tb := q_mt_9 194 rfl rfl
set_option maxRecDepth 100000 in
theorem iX12_settle : Cond.instanceMethod yX12_settle ∈ q_tb := q_mt_9 196 rfl rfl
set_option maxRecDepth 100000 in
theorem eX12_settle : Cond.selects (yX12_settle).cls yX12_settle yX12_settle ∈ q_tb := q_ms 91 rfl rfl
set_option maxRecDepth 100000 in
theorem mX12_madeSorts : q_mt yX12_madeSorts cX12_madeSorts 5 (some .int) 1 := ⟨q_mt_9 210 rfl rfl, q_mt_1 14 rfl rfl, ⟨q_ncRX12.1, q_ncRX12.2.1, by decide +kernel⟩, by decide⟩
set_option maxRecDepth 100000 in
theorem lRX12_495 : Cond.methodLink RX12 495 yX12_madeSorts ∈ q_tb := q_mt_9 207 rfl rfl
set_option maxRecDepth 100000 in
theorem iX12_madeSorts : Cond.instanceMethod yX12_madeSorts ∈ q_tb := q_mt_9 209 rfl rfl
set_option maxRecDepth 100000 in
theorem eX12_madeSorts : Cond.selects (yX12_madeSorts).cls yX12_madeSorts yX12_madeSorts ∈ q_tb := q_ms 93 rfl rfl
set_option maxRecDepth 100000 in
theorem mX12_needsOf : q_mt yX12_needsOf cX12_needsOf 4 (some .int) 1 := ⟨q_mt_9 214 rfl rfl, q_mt_1 14 rfl rfl, ⟨q_ncRX12.1, q_ncRX12.2.1, by decide +kernel⟩, by decide⟩
set_option maxRecDepth 100000 in
theorem lRX12_498 : Cond.methodLink RX12 498 yX12_needsOf ∈ q_tb := q_mt_9 211 rfl rfl
set_option maxRecDepth 100000 in
theorem iX12_needsOf : Cond.instanceMethod yX12_needsOf ∈ q_tb := q_mt_9 213 rfl rfl
set_option maxRecDepth 100000 in
theorem eX12_needsOf : Cond.selects (yX12_needsOf).cls yX12_needsOf yX12_needsOf ∈ q_tb := q_ms 94 rfl rfl
set_option maxRecDepth 100000 in
theorem gRX12_149 : q_gf RX12 149 12 56 := ⟨_, _, _, rfl, by decide, q_inT12, q_mt_7 176 rfl rfl⟩
set_option maxRecDepth 100000 in
theorem gRX12_152 : q_gf RX12 152 12 57 := ⟨_, _, _, rfl, by decide, q_inT12, q_mt_7 177 rfl rfl⟩
set_option maxRecDepth 100000 in
theorem gRX12_501 : q_gf RX12 501 12 58 := ⟨_, _, _, rfl, by decide, q_inT12, q_mt_7 178 rfl rfl⟩
set_option maxRecDepth 100000 in
theorem pRX12_501 : q_pf RX12 501 12 58 .boolean := ⟨_, _, _, tyX12, rfl, by decide, q_inT12, q_mt_7 178 rfl rfl, tyX12_ok, nmX12, rfl, tyX12_ok 58 (by decide)⟩
set_option maxRecDepth 100000 in
theorem gRX12_155 : q_gf RX12 155 12 59 := ⟨_, _, _, rfl, by decide, q_inT12, q_mt_7 179 rfl rfl⟩
set_option maxRecDepth 100000 in
theorem mX12_power64 : q_mt yX12_power64 cX12_power64 1 (some .int) 1 := ⟨q_mt_9 230 rfl rfl, q_mt_1 14 rfl rfl, ⟨q_ncRX12.1, q_ncRX12.2.1, by decide +kernel⟩, by decide⟩
set_option maxRecDepth 100000 in
theorem lRX12_504 : Cond.methodLink RX12 504 yX12_power64 ∈ q_tb := q_mt_9 228 rfl rfl
set_option maxRecDepth 100000 in
theorem sX12_power64 : Cond.static yX12_power64 ∈ q_tb := q_mt_9 229 rfl rfl
set_option maxRecDepth 100000 in
theorem mX12_addRow : q_mt yX12_addRow cX12_addRow 7 none 3 := ⟨q_mt_9 234 rfl rfl, q_mt_1 14 rfl rfl, ⟨q_ncRX12.1, q_ncRX12.2.1, by decide +kernel⟩, by decide⟩
set_option maxRecDepth 100000 in
theorem lRX12_507 : Cond.methodLink RX12 507 yX12_addRow ∈ q_tb := q_mt_9 231 rfl rfl
set_option maxRecDepth 100000 in
theorem iX12_addRow : Cond.instanceMethod yX12_addRow ∈ q_tb := q_mt_9 233 rfl rfl
set_option maxRecDepth 100000 in
theorem eX12_addRow : Cond.selects (yX12_addRow).cls yX12_addRow yX12_addRow ∈ q_tb := q_ms 97 rfl rfl
set_option maxRecDepth 100000 in
theorem mX12_addRows : q_mt yX12_addRows cX12_addRows 11 none 2 := ⟨q_mt_9 227 rfl rfl, q_mt_1 14 rfl rfl, ⟨q_ncRX12.1, q_ncRX12.2.1, by decide +kernel⟩, by decide⟩
set_option maxRecDepth 100000 in
theorem lRX12_510 : Cond.methodLink RX12 510 yX12_addRows ∈ q_tb := q_mt_9 224 rfl rfl
set_option maxRecDepth 100000 in
theorem iX12_addRows : Cond.instanceMethod yX12_addRows ∈ q_tb := q_mt_9 226 rfl rfl
set_option maxRecDepth 100000 in
theorem eX12_addRows : Cond.selects (yX12_addRows).cls yX12_addRows yX12_addRows ∈ q_tb := q_ms 96 rfl rfl
set_option maxRecDepth 100000 in
theorem mX12_nextWidths : q_mt yX12_nextWidths cX12_nextWidths 6 (some .boolean) 2 := ⟨q_mt_9 238 rfl rfl, q_mt_1 14 rfl rfl, ⟨q_ncRX12.1, q_ncRX12.2.1, by decide +kernel⟩, by decide⟩
set_option maxRecDepth 100000 in
theorem lRX12_513 : Cond.methodLink RX12 513 yX12_nextWidths ∈ q_tb := q_mt_9 235 rfl rfl
set_option maxRecDepth 100000 in
theorem iX12_nextWidths : Cond.instanceMethod yX12_nextWidths ∈ q_tb := q_mt_9 237 rfl rfl
set_option maxRecDepth 100000 in
theorem eX12_nextWidths : Cond.selects (yX12_nextWidths).cls yX12_nextWidths yX12_nextWidths ∈ q_tb := q_ms 98 rfl rfl
set_option maxRecDepth 100000 in
theorem wRX12_516 : Jvm.Cond.constantLong RX12 516 (4) ∈ q_tb := q_mt_9 219 rfl rfl
set_option maxRecDepth 100000 in
theorem mX12_findRows : q_mt yX12_findRows cX12_findRows 7 none 2 := ⟨q_mt_9 223 rfl rfl, q_mt_1 14 rfl rfl, ⟨q_ncRX12.1, q_ncRX12.2.1, by decide +kernel⟩, by decide⟩
set_option maxRecDepth 100000 in
theorem lRX12_518 : Cond.methodLink RX12 518 yX12_findRows ∈ q_tb := q_mt_9 220 rfl rfl
set_option maxRecDepth 100000 in
theorem iX12_findRows : Cond.instanceMethod yX12_findRows ∈ q_tb := q_mt_9 222 rfl rfl
set_option maxRecDepth 100000 in
theorem eX12_findRows : Cond.selects (yX12_findRows).cls yX12_findRows yX12_findRows ∈ q_tb := q_ms 95 rfl rfl
set_option maxRecDepth 100000 in
theorem kRX12_521 : Jvm.Cond.constant RX12 521 (-100005) ∈ q_tb := q_mt_9 239 rfl rfl
set_option maxRecDepth 100000 in
theorem gRX12_158 : q_gf RX12 158 12 60 := ⟨_, _, _, rfl, by decide, q_inT12, q_mt_7 180 rfl rfl⟩
set_option maxRecDepth 100000 in
theorem gRX12_161 : q_gf RX12 161 12 61 := ⟨_, _, _, rfl, by decide, q_inT12, q_mt_7 181 rfl rfl⟩
set_option maxRecDepth 100000 in
theorem kRX12_522 : Jvm.Cond.constant RX12 522 (1000000) ∈ q_tb := q_mt_10 12 rfl rfl
set_option maxRecDepth 100000 in
theorem mX12_itemPrice : q_mt yX12_itemPrice cX12_itemPrice 5 (some .int) 3 := ⟨q_mt_10 24 rfl rfl, q_mt_1 14 rfl rfl, ⟨q_ncRX12.1, q_ncRX12.2.1, by decide +kernel⟩, by decide⟩
set_option maxRecDepth 100000 in
theorem lRX12_523 : Cond.methodLink RX12 523 yX12_itemPrice ∈ q_tb := q_mt_10 21 rfl rfl
set_option maxRecDepth 100000 in
theorem iX12_itemPrice : Cond.instanceMethod yX12_itemPrice ∈ q_tb := q_mt_10 23 rfl rfl
set_option maxRecDepth 100000 in
theorem eX12_itemPrice : Cond.selects (yX12_itemPrice).cls yX12_itemPrice yX12_itemPrice ∈ q_tb := q_ms 102 rfl rfl
set_option maxRecDepth 100000 in
theorem mX12_formPrice : q_mt yX12_formPrice cX12_formPrice 9 (some .int) 3 := ⟨q_mt_10 20 rfl rfl, q_mt_1 14 rfl rfl, ⟨q_ncRX12.1, q_ncRX12.2.1, by decide +kernel⟩, by decide⟩
set_option maxRecDepth 100000 in
theorem lRX12_526 : Cond.methodLink RX12 526 yX12_formPrice ∈ q_tb := q_mt_10 17 rfl rfl
set_option maxRecDepth 100000 in
theorem iX12_formPrice : Cond.instanceMethod yX12_formPrice ∈ q_tb := q_mt_10 19 rfl rfl
set_option maxRecDepth 100000 in
theorem eX12_formPrice : Cond.selects (yX12_formPrice).cls yX12_formPrice yX12_formPrice ∈ q_tb := q_ms 101 rfl rfl
set_option maxRecDepth 100000 in
theorem mX12_betters : q_mt yX12_betters cX12_betters 9 (some .boolean) 4 := ⟨q_mt_10 16 rfl rfl, q_mt_1 14 rfl rfl, ⟨q_ncRX12.1, q_ncRX12.2.1, by decide +kernel⟩, by decide⟩
set_option maxRecDepth 100000 in
theorem lRX12_529 : Cond.methodLink RX12 529 yX12_betters ∈ q_tb := q_mt_10 13 rfl rfl
set_option maxRecDepth 100000 in
theorem iX12_betters : Cond.instanceMethod yX12_betters ∈ q_tb := q_mt_10 15 rfl rfl
set_option maxRecDepth 100000 in
theorem eX12_betters : Cond.selects (yX12_betters).cls yX12_betters yX12_betters ∈ q_tb := q_ms 100 rfl rfl
set_option maxRecDepth 100000 in
theorem mX12_findPrices : q_mt yX12_findPrices cX12_findPrices 6 none 1 := ⟨q_mt_10 11 rfl rfl, q_mt_1 14 rfl rfl, ⟨q_ncRX12.1, q_ncRX12.2.1, by decide +kernel⟩, by decide⟩
set_option maxRecDepth 100000 in
theorem lRX12_533 : Cond.methodLink RX12 533 yX12_findPrices ∈ q_tb := q_mt_10 8 rfl rfl
set_option maxRecDepth 100000 in
theorem iX12_findPrices : Cond.instanceMethod yX12_findPrices ∈ q_tb := q_mt_10 10 rfl rfl
set_option maxRecDepth 100000 in
theorem eX12_findPrices : Cond.selects (yX12_findPrices).cls yX12_findPrices yX12_findPrices ∈ q_tb := q_ms 99 rfl rfl
set_option maxRecDepth 100000 in
theorem mX12_cheapForm : q_mt yX12_cheapForm cX12_cheapForm 6 (some .int) 4 := ⟨q_mt_10 32 rfl rfl, q_mt_1 14 rfl rfl, ⟨q_ncRX12.1, q_ncRX12.2.1, by decide +kernel⟩, by decide⟩
set_option maxRecDepth 100000 in
theorem lRX12_536 : Cond.methodLink RX12 536 yX12_cheapForm ∈ q_tb := q_mt_10 29 rfl rfl
set_option maxRecDepth 100000 in
theorem iX12_cheapForm : Cond.instanceMethod yX12_cheapForm ∈ q_tb := q_mt_10 31 rfl rfl
set_option maxRecDepth 100000 in
theorem eX12_cheapForm : Cond.selects (yX12_cheapForm).cls yX12_cheapForm yX12_cheapForm ∈ q_tb := q_ms 103 rfl rfl
set_option maxRecDepth 100000 in
theorem mX12_fitting : q_mt yX12_fitting cX12_fitting 5 (some .int) 3 := ⟨q_mt_10 36 rfl rfl, q_mt_1 14 rfl rfl, ⟨q_ncRX12.1, q_ncRX12.2.1, by decide +kernel⟩, by decide⟩
set_option maxRecDepth 100000 in
theorem lRX12_539 : Cond.methodLink RX12 539 yX12_fitting ∈ q_tb := q_mt_10 33 rfl rfl
set_option maxRecDepth 100000 in
theorem iX12_fitting : Cond.instanceMethod yX12_fitting ∈ q_tb := q_mt_10 35 rfl rfl
set_option maxRecDepth 100000 in
theorem eX12_fitting : Cond.selects (yX12_fitting).cls yX12_fitting yX12_fitting ∈ q_tb := q_ms 104 rfl rfl
set_option maxRecDepth 100000 in
theorem mX12_walk : q_mt yX12_walk cX12_walk 10 none 1 := ⟨q_mt_10 48 rfl rfl, q_mt_1 14 rfl rfl, ⟨q_ncRX12.1, q_ncRX12.2.1, by decide +kernel⟩, by decide⟩
set_option maxRecDepth 100000 in
theorem lRX12_542 : Cond.methodLink RX12 542 yX12_walk ∈ q_tb := q_mt_10 45 rfl rfl
set_option maxRecDepth 100000 in
theorem iX12_walk : Cond.instanceMethod yX12_walk ∈ q_tb := q_mt_10 47 rfl rfl
set_option maxRecDepth 100000 in
theorem eX12_walk : Cond.selects (yX12_walk).cls yX12_walk yX12_walk ∈ q_tb := q_ms 106 rfl rfl
set_option maxRecDepth 100000 in
theorem mX12_isNode : q_mt yX12_isNode cX12_isNode 3 (some .boolean) 2 := ⟨q_mt_10 68 rfl rfl, q_mt_1 14 rfl rfl, ⟨q_ncRX12.1, q_ncRX12.2.1, by decide +kernel⟩, by decide⟩
set_option maxRecDepth 100000 in
theorem lRX12_545 : Cond.methodLink RX12 545 yX12_isNode ∈ q_tb := q_mt_10 65 rfl rfl
set_option maxRecDepth 100000 in
theorem iX12_isNode : Cond.instanceMethod yX12_isNode ∈ q_tb := q_mt_10 67 rfl rfl
set_option maxRecDepth 100000 in
theorem eX12_isNode : Cond.selects (yX12_isNode).cls yX12_isNode yX12_isNode ∈ q_tb := q_ms 110 rfl rfl
set_option maxRecDepth 100000 in
theorem mX12_isLeaf : q_mt yX12_isLeaf cX12_isLeaf 3 (some .boolean) 2 := ⟨q_mt_10 84 rfl rfl, q_mt_1 14 rfl rfl, ⟨q_ncRX12.1, q_ncRX12.2.1, by decide +kernel⟩, by decide⟩
set_option maxRecDepth 100000 in
theorem lRX12_548 : Cond.methodLink RX12 548 yX12_isLeaf ∈ q_tb := q_mt_10 81 rfl rfl
set_option maxRecDepth 100000 in
theorem iX12_isLeaf : Cond.instanceMethod yX12_isLeaf ∈ q_tb := q_mt_10 83 rfl rfl
set_option maxRecDepth 100000 in
theorem eX12_isLeaf : Cond.selects (yX12_isLeaf).cls yX12_isLeaf yX12_isLeaf ∈ q_tb := q_ms 112 rfl rfl
set_option maxRecDepth 100000 in
theorem mX12_areLike : q_mt yX12_areLike cX12_areLike 14 (some .boolean) 4 := ⟨q_mt_10 108 rfl rfl, q_mt_1 14 rfl rfl, ⟨q_ncRX12.1, q_ncRX12.2.1, by decide +kernel⟩, by decide⟩
set_option maxRecDepth 100000 in
theorem lRX12_551 : Cond.methodLink RX12 551 yX12_areLike ∈ q_tb := q_mt_10 105 rfl rfl
set_option maxRecDepth 100000 in
theorem iX12_areLike : Cond.instanceMethod yX12_areLike ∈ q_tb := q_mt_10 107 rfl rfl
set_option maxRecDepth 100000 in
theorem eX12_areLike : Cond.selects (yX12_areLike).cls yX12_areLike yX12_areLike ∈ q_tb := q_ms 113 rfl rfl
set_option maxRecDepth 100000 in
theorem gRX12_554 : q_gf RX12 554 12 69 := ⟨_, _, _, rfl, by decide, q_inT12, q_mt_7 189 rfl rfl⟩
set_option maxRecDepth 100000 in
theorem pRX12_554 : q_pf RX12 554 12 69 .int := ⟨_, _, _, tyX12, rfl, by decide, q_inT12, q_mt_7 189 rfl rfl, tyX12_ok, nmX12, rfl, tyX12_ok 69 (by decide)⟩
set_option maxRecDepth 100000 in
theorem mX12_isSoft : q_mt yX12_isSoft cX12_isSoft 4 (some .boolean) 1 := ⟨q_mt_10 129 rfl rfl, q_mt_1 14 rfl rfl, ⟨q_ncRX12.1, q_ncRX12.2.1, by decide +kernel⟩, by decide⟩
set_option maxRecDepth 100000 in
theorem lRX12_557 : Cond.methodLink RX12 557 yX12_isSoft ∈ q_tb := q_mt_10 126 rfl rfl
set_option maxRecDepth 100000 in
theorem iX12_isSoft : Cond.instanceMethod yX12_isSoft ∈ q_tb := q_mt_10 128 rfl rfl
set_option maxRecDepth 100000 in
theorem eX12_isSoft : Cond.selects (yX12_isSoft).cls yX12_isSoft yX12_isSoft ∈ q_tb := q_ms 116 rfl rfl
set_option maxRecDepth 100000 in
theorem gRX12_176 : q_gf RX12 176 12 70 := ⟨_, _, _, rfl, by decide, q_inT12, q_mt_7 190 rfl rfl⟩
set_option maxRecDepth 100000 in
theorem gRX12_560 : q_gf RX12 560 12 66 := ⟨_, _, _, rfl, by decide, q_inT12, q_mt_7 186 rfl rfl⟩
set_option maxRecDepth 100000 in
theorem pRX12_560 : q_pf RX12 560 12 66 .int := ⟨_, _, _, tyX12, rfl, by decide, q_inT12, q_mt_7 186 rfl rfl, tyX12_ok, nmX12, rfl, tyX12_ok 66 (by decide)⟩
set_option maxRecDepth 100000 in
theorem gRX12_563 : q_gf RX12 563 12 67 := ⟨_, _, _, rfl, by decide, q_inT12, q_mt_7 187 rfl rfl⟩
set_option maxRecDepth 100000 in
theorem pRX12_563 : q_pf RX12 563 12 67 .int := ⟨_, _, _, tyX12, rfl, by decide, q_inT12, q_mt_7 187 rfl rfl, tyX12_ok, nmX12, rfl, tyX12_ok 67 (by decide)⟩
set_option maxRecDepth 100000 in
theorem gRX12_566 : q_gf RX12 566 12 68 := ⟨_, _, _, rfl, by decide, q_inT12, q_mt_7 188 rfl rfl⟩
set_option maxRecDepth 100000 in
theorem pRX12_566 : q_pf RX12 566 12 68 .int := ⟨_, _, _, tyX12, rfl, by decide, q_inT12, q_mt_7 188 rfl rfl, tyX12_ok, nmX12, rfl, tyX12_ok 68 (by decide)⟩
set_option maxRecDepth 100000 in
theorem gRX12_164 : q_gf RX12 164 12 62 := ⟨_, _, _, rfl, by decide, q_inT12, q_mt_7 182 rfl rfl⟩
set_option maxRecDepth 100000 in
theorem gRX12_167 : q_gf RX12 167 12 63 := ⟨_, _, _, rfl, by decide, q_inT12, q_mt_7 183 rfl rfl⟩
set_option maxRecDepth 100000 in
theorem mX12_endLine : q_mt yX12_endLine cX12_endLine 3 none 2 := ⟨q_mt_10 141 rfl rfl, q_mt_1 14 rfl rfl, ⟨q_ncRX12.1, q_ncRX12.2.1, by decide +kernel⟩, by decide⟩
set_option maxRecDepth 100000 in
theorem lRX12_569 : Cond.methodLink RX12 569 yX12_endLine ∈ q_tb := q_mt_10 138 rfl rfl
set_option maxRecDepth 100000 in
theorem iX12_endLine : Cond.instanceMethod yX12_endLine ∈ q_tb := q_mt_10 140 rfl rfl
set_option maxRecDepth 100000 in
theorem eX12_endLine : Cond.selects (yX12_endLine).cls yX12_endLine yX12_endLine ∈ q_tb := q_ms 119 rfl rfl
set_option maxRecDepth 100000 in
theorem gRX12_170 : q_gf RX12 170 12 64 := ⟨_, _, _, rfl, by decide, q_inT12, q_mt_7 184 rfl rfl⟩
set_option maxRecDepth 100000 in
theorem gRX12_173 : q_gf RX12 173 12 65 := ⟨_, _, _, rfl, by decide, q_inT12, q_mt_7 185 rfl rfl⟩
set_option maxRecDepth 100000 in
theorem mX12_wide : q_mt yX12_wide cX12_wide 3 (some .int) 2 := ⟨q_mt_10 145 rfl rfl, q_mt_1 14 rfl rfl, ⟨q_ncRX12.1, q_ncRX12.2.1, by decide +kernel⟩, by decide⟩
set_option maxRecDepth 100000 in
theorem lRX12_572 : Cond.methodLink RX12 572 yX12_wide ∈ q_tb := q_mt_10 142 rfl rfl
set_option maxRecDepth 100000 in
theorem iX12_wide : Cond.instanceMethod yX12_wide ∈ q_tb := q_mt_10 144 rfl rfl
set_option maxRecDepth 100000 in
theorem eX12_wide : Cond.selects (yX12_wide).cls yX12_wide yX12_wide ∈ q_tb := q_ms 120 rfl rfl
set_option maxRecDepth 100000 in
theorem mX12_findSoft : q_mt yX12_findSoft cX12_findSoft 3 none 1 := ⟨q_mt_10 125 rfl rfl, q_mt_1 14 rfl rfl, ⟨q_ncRX12.1, q_ncRX12.2.1, by decide +kernel⟩, by decide⟩
set_option maxRecDepth 100000 in
theorem lRX12_575 : Cond.methodLink RX12 575 yX12_findSoft ∈ q_tb := q_mt_10 122 rfl rfl
set_option maxRecDepth 100000 in
theorem iX12_findSoft : Cond.instanceMethod yX12_findSoft ∈ q_tb := q_mt_10 124 rfl rfl
set_option maxRecDepth 100000 in
theorem eX12_findSoft : Cond.selects (yX12_findSoft).cls yX12_findSoft yX12_findSoft ∈ q_tb := q_ms 115 rfl rfl
set_option maxRecDepth 100000 in
theorem mX12_keepsPins : q_mt yX12_keepsPins cX12_keepsPins 6 (some .boolean) 2 := ⟨q_mt_10 133 rfl rfl, q_mt_1 14 rfl rfl, ⟨q_ncRX12.1, q_ncRX12.2.1, by decide +kernel⟩, by decide⟩
set_option maxRecDepth 100000 in
theorem lRX12_578 : Cond.methodLink RX12 578 yX12_keepsPins ∈ q_tb := q_mt_10 130 rfl rfl
set_option maxRecDepth 100000 in
theorem iX12_keepsPins : Cond.instanceMethod yX12_keepsPins ∈ q_tb := q_mt_10 132 rfl rfl
set_option maxRecDepth 100000 in
theorem eX12_keepsPins : Cond.selects (yX12_keepsPins).cls yX12_keepsPins yX12_keepsPins ∈ q_tb := q_ms 117 rfl rfl
set_option maxRecDepth 100000 in
theorem mX12_layWith : q_mt yX12_layWith cX12_layWith 6 none 3 := ⟨q_mt_10 137 rfl rfl, q_mt_1 14 rfl rfl, ⟨q_ncRX12.1, q_ncRX12.2.1, by decide +kernel⟩, by decide⟩
set_option maxRecDepth 100000 in
theorem lRX12_581 : Cond.methodLink RX12 581 yX12_layWith ∈ q_tb := q_mt_10 134 rfl rfl
set_option maxRecDepth 100000 in
theorem iX12_layWith : Cond.instanceMethod yX12_layWith ∈ q_tb := q_mt_10 136 rfl rfl
set_option maxRecDepth 100000 in
theorem eX12_layWith : Cond.selects (yX12_layWith).cls yX12_layWith yX12_layWith ∈ q_tb := q_ms 118 rfl rfl
set_option maxRecDepth 100000 in
theorem mX12_bits : q_mt yX12_bits cX12_bits 3 (some .int) 1 := ⟨q_mt_10 148 rfl rfl, q_mt_1 14 rfl rfl, ⟨q_ncRX12.1, q_ncRX12.2.1, by decide +kernel⟩, by decide⟩
set_option maxRecDepth 100000 in
theorem lRX12_584 : Cond.methodLink RX12 584 yX12_bits ∈ q_tb := q_mt_10 146 rfl rfl
set_option maxRecDepth 100000 in
theorem sX12_bits : Cond.static yX12_bits ∈ q_tb := q_mt_10 147 rfl rfl
set_option maxRecDepth 100000 in
theorem wRX12_587 : Jvm.Cond.constantLong RX12 587 (3) ∈ q_tb := q_mt_10 117 rfl rfl
set_option maxRecDepth 100000 in
theorem mX12_layBest : q_mt yX12_layBest cX12_layBest 6 (some .int) 2 := ⟨q_mt_10 121 rfl rfl, q_mt_1 14 rfl rfl, ⟨q_ncRX12.1, q_ncRX12.2.1, by decide +kernel⟩, by decide⟩
set_option maxRecDepth 100000 in
theorem lRX12_589 : Cond.methodLink RX12 589 yX12_layBest ∈ q_tb := q_mt_10 118 rfl rfl
set_option maxRecDepth 100000 in
theorem iX12_layBest : Cond.instanceMethod yX12_layBest ∈ q_tb := q_mt_10 120 rfl rfl
set_option maxRecDepth 100000 in
theorem eX12_layBest : Cond.selects (yX12_layBest).cls yX12_layBest yX12_layBest ∈ q_tb := q_ms 114 rfl rfl
set_option maxRecDepth 100000 in
theorem gRX12_185 : q_gf RX12 185 12 73 := ⟨_, _, _, rfl, by decide, q_inT12, q_mt_7 193 rfl rfl⟩
set_option maxRecDepth 100000 in
theorem gRX12_179 : q_gf RX12 179 12 71 := ⟨_, _, _, rfl, by decide, q_inT12, q_mt_7 191 rfl rfl⟩
set_option maxRecDepth 100000 in
theorem gRX12_182 : q_gf RX12 182 12 72 := ⟨_, _, _, rfl, by decide, q_inT12, q_mt_7 192 rfl rfl⟩
set_option maxRecDepth 100000 in
theorem gRX12_188 : q_gf RX12 188 12 74 := ⟨_, _, _, rfl, by decide, q_inT12, q_mt_7 194 rfl rfl⟩
set_option maxRecDepth 100000 in
theorem mX12_addPiece : q_mt yX12_addPiece cX12_addPiece 5 none 3 := ⟨q_mt_10 164 rfl rfl, q_mt_1 14 rfl rfl, ⟨q_ncRX12.1, q_ncRX12.2.1, by decide +kernel⟩, by decide⟩
set_option maxRecDepth 100000 in
theorem lRX12_592 : Cond.methodLink RX12 592 yX12_addPiece ∈ q_tb := q_mt_10 161 rfl rfl
set_option maxRecDepth 100000 in
theorem iX12_addPiece : Cond.instanceMethod yX12_addPiece ∈ q_tb := q_mt_10 163 rfl rfl
set_option maxRecDepth 100000 in
theorem eX12_addPiece : Cond.selects (yX12_addPiece).cls yX12_addPiece yX12_addPiece ∈ q_tb := q_ms 122 rfl rfl
set_option maxRecDepth 100000 in
theorem gRX12_196 : q_gf RX12 196 12 76 := ⟨_, _, _, rfl, by decide, q_inT12, q_mt_7 196 rfl rfl⟩
set_option maxRecDepth 100000 in
theorem gRX12_192 : q_gf RX12 192 12 75 := ⟨_, _, _, rfl, by decide, q_inT12, q_mt_7 195 rfl rfl⟩
set_option maxRecDepth 100000 in
theorem mX12_linePieces : q_mt yX12_linePieces cX12_linePieces 8 none 2 := ⟨q_mt_10 160 rfl rfl, q_mt_1 14 rfl rfl, ⟨q_ncRX12.1, q_ncRX12.2.1, by decide +kernel⟩, by decide⟩
set_option maxRecDepth 100000 in
theorem lRX12_595 : Cond.methodLink RX12 595 yX12_linePieces ∈ q_tb := q_mt_10 157 rfl rfl
set_option maxRecDepth 100000 in
theorem iX12_linePieces : Cond.instanceMethod yX12_linePieces ∈ q_tb := q_mt_10 159 rfl rfl
set_option maxRecDepth 100000 in
theorem eX12_linePieces : Cond.selects (yX12_linePieces).cls yX12_linePieces yX12_linePieces ∈ q_tb := q_ms 121 rfl rfl
set_option maxRecDepth 100000 in
theorem mX12_isKey : q_mt yX12_isKey cX12_isKey 5 (some .boolean) 2 := ⟨q_mt_10 168 rfl rfl, q_mt_1 14 rfl rfl, ⟨q_ncRX12.1, q_ncRX12.2.1, by decide +kernel⟩, by decide⟩
set_option maxRecDepth 100000 in
theorem lRX12_598 : Cond.methodLink RX12 598 yX12_isKey ∈ q_tb := q_mt_10 165 rfl rfl
set_option maxRecDepth 100000 in
theorem iX12_isKey : Cond.instanceMethod yX12_isKey ∈ q_tb := q_mt_10 167 rfl rfl
set_option maxRecDepth 100000 in
theorem eX12_isKey : Cond.selects (yX12_isKey).cls yX12_isKey yX12_isKey ∈ q_tb := q_ms 123 rfl rfl
set_option maxRecDepth 100000 in
theorem mX12_compareAt : q_mt yX12_compareAt cX12_compareAt 9 none 2 := ⟨q_mt_10 172 rfl rfl, q_mt_1 14 rfl rfl, ⟨q_ncRX12.1, q_ncRX12.2.1, by decide +kernel⟩, by decide⟩
set_option maxRecDepth 100000 in
theorem lRX12_601 : Cond.methodLink RX12 601 yX12_compareAt ∈ q_tb := q_mt_10 169 rfl rfl
set_option maxRecDepth 100000 in
theorem iX12_compareAt : Cond.instanceMethod yX12_compareAt ∈ q_tb := q_mt_10 171 rfl rfl
set_option maxRecDepth 100000 in
theorem eX12_compareAt : Cond.selects (yX12_compareAt).cls yX12_compareAt yX12_compareAt ∈ q_tb := q_ms 124 rfl rfl
set_option maxRecDepth 100000 in
theorem gRX12_199 : q_gf RX12 199 12 78 := ⟨_, _, _, rfl, by decide, q_inT12, q_mt_7 198 rfl rfl⟩
set_option maxRecDepth 100000 in
theorem gRX12_604 : q_gf RX12 604 12 77 := ⟨_, _, _, rfl, by decide, q_inT12, q_mt_7 197 rfl rfl⟩
set_option maxRecDepth 100000 in
theorem gRX12_202 : q_gf RX12 202 12 79 := ⟨_, _, _, rfl, by decide, q_inT12, q_mt_7 199 rfl rfl⟩
set_option maxRecDepth 100000 in
theorem gRX12_205 : q_gf RX12 205 12 80 := ⟨_, _, _, rfl, by decide, q_inT12, q_mt_7 200 rfl rfl⟩
set_option maxRecDepth 100000 in
theorem gRX12_208 : q_gf RX12 208 12 81 := ⟨_, _, _, rfl, by decide, q_inT12, q_mt_7 201 rfl rfl⟩
set_option maxRecDepth 100000 in
theorem gRX12_211 : q_gf RX12 211 12 82 := ⟨_, _, _, rfl, by decide, q_inT12, q_mt_7 202 rfl rfl⟩
set_option maxRecDepth 100000 in
theorem pRX12_604 : q_pf RX12 604 12 77 .int := ⟨_, _, _, tyX12, rfl, by decide, q_inT12, q_mt_7 197 rfl rfl, tyX12_ok, nmX12, rfl, tyX12_ok 77 (by decide)⟩
set_option maxRecDepth 100000 in
theorem mX12_awaitJoin : q_mt yX12_awaitJoin cX12_awaitJoin 6 none 5 := ⟨q_mt_10 184 rfl rfl, q_mt_1 14 rfl rfl, ⟨q_ncRX12.1, q_ncRX12.2.1, by decide +kernel⟩, by decide⟩
set_option maxRecDepth 100000 in
theorem lRX12_607 : Cond.methodLink RX12 607 yX12_awaitJoin ∈ q_tb := q_mt_10 181 rfl rfl
set_option maxRecDepth 100000 in
theorem iX12_awaitJoin : Cond.instanceMethod yX12_awaitJoin ∈ q_tb := q_mt_10 183 rfl rfl
set_option maxRecDepth 100000 in
theorem eX12_awaitJoin : Cond.selects (yX12_awaitJoin).cls yX12_awaitJoin yX12_awaitJoin ∈ q_tb := q_ms 125 rfl rfl
set_option maxRecDepth 100000 in
theorem mX12_formOfPiece : q_mt yX12_formOfPiece cX12_formOfPiece 3 (some .int) 2 := ⟨q_mt_10 188 rfl rfl, q_mt_1 14 rfl rfl, ⟨q_ncRX12.1, q_ncRX12.2.1, by decide +kernel⟩, by decide⟩
set_option maxRecDepth 100000 in
theorem lRX12_610 : Cond.methodLink RX12 610 yX12_formOfPiece ∈ q_tb := q_mt_10 185 rfl rfl
set_option maxRecDepth 100000 in
theorem iX12_formOfPiece : Cond.instanceMethod yX12_formOfPiece ∈ q_tb := q_mt_10 187 rfl rfl
set_option maxRecDepth 100000 in
theorem eX12_formOfPiece : Cond.selects (yX12_formOfPiece).cls yX12_formOfPiece yX12_formOfPiece ∈ q_tb := q_ms 126 rfl rfl
set_option maxRecDepth 100000 in
theorem mX12_build : q_mt yX12_build cX12_build 9 none 1 := ⟨q_mt_10 196 rfl rfl, q_mt_1 14 rfl rfl, ⟨q_ncRX12.1, q_ncRX12.2.1, by decide +kernel⟩, by decide⟩
set_option maxRecDepth 100000 in
theorem lRX12_613 : Cond.methodLink RX12 613 yX12_build ∈ q_tb := q_mt_10 193 rfl rfl
set_option maxRecDepth 100000 in
theorem iX12_build : Cond.instanceMethod yX12_build ∈ q_tb := q_mt_10 195 rfl rfl
set_option maxRecDepth 100000 in
theorem eX12_build : Cond.selects (yX12_build).cls yX12_build yX12_build ∈ q_tb := q_ms 128 rfl rfl
set_option maxRecDepth 100000 in
theorem mX12_reachOf : q_mt yX12_reachOf cX12_reachOf 4 (some .int) 2 := ⟨q_mt_10 228 rfl rfl, q_mt_1 14 rfl rfl, ⟨q_ncRX12.1, q_ncRX12.2.1, by decide +kernel⟩, by decide⟩
set_option maxRecDepth 100000 in
theorem lRX12_616 : Cond.methodLink RX12 616 yX12_reachOf ∈ q_tb := q_mt_10 225 rfl rfl
set_option maxRecDepth 100000 in
theorem iX12_reachOf : Cond.instanceMethod yX12_reachOf ∈ q_tb := q_mt_10 227 rfl rfl
set_option maxRecDepth 100000 in
theorem eX12_reachOf : Cond.selects (yX12_reachOf).cls yX12_reachOf yX12_reachOf ∈ q_tb := q_ms 135 rfl rfl
set_option maxRecDepth 100000 in
theorem mX12_howOf : q_mt yX12_howOf cX12_howOf 4 (some .int) 2 := ⟨q_mt_10 216 rfl rfl, q_mt_1 14 rfl rfl, ⟨q_ncRX12.1, q_ncRX12.2.1, by decide +kernel⟩, by decide⟩
set_option maxRecDepth 100000 in
theorem lRX12_619 : Cond.methodLink RX12 619 yX12_howOf ∈ q_tb := q_mt_10 213 rfl rfl
set_option maxRecDepth 100000 in
theorem iX12_howOf : Cond.instanceMethod yX12_howOf ∈ q_tb := q_mt_10 215 rfl rfl
set_option maxRecDepth 100000 in
theorem eX12_howOf : Cond.selects (yX12_howOf).cls yX12_howOf yX12_howOf ∈ q_tb := q_ms 132 rfl rfl
set_option maxRecDepth 100000 in
theorem mX12_sees : q_mt yX12_sees cX12_sees 6 (some .boolean) 3 := ⟨q_mt_10 224 rfl rfl, q_mt_1 14 rfl rfl, ⟨q_ncRX12.1, q_ncRX12.2.1, by decide +kernel⟩, by decide⟩
set_option maxRecDepth 100000 in
theorem lRX12_622 : Cond.methodLink RX12 622 yX12_sees ∈ q_tb := q_mt_10 221 rfl rfl
set_option maxRecDepth 100000 in
theorem iX12_sees : Cond.instanceMethod yX12_sees ∈ q_tb := q_mt_10 223 rfl rfl
set_option maxRecDepth 100000 in
theorem eX12_sees : Cond.selects (yX12_sees).cls yX12_sees yX12_sees ∈ q_tb := q_ms 134 rfl rfl
set_option maxRecDepth 100000 in
theorem mX12_boundTo : q_mt yX12_boundTo cX12_boundTo 8 (some .int) 2 := ⟨q_mt_10 220 rfl rfl, q_mt_1 14 rfl rfl, ⟨q_ncRX12.1, q_ncRX12.2.1, by decide +kernel⟩, by decide⟩
set_option maxRecDepth 100000 in
theorem lRX12_625 : Cond.methodLink RX12 625 yX12_boundTo ∈ q_tb := q_mt_10 217 rfl rfl
set_option maxRecDepth 100000 in
theorem iX12_boundTo : Cond.instanceMethod yX12_boundTo ∈ q_tb := q_mt_10 219 rfl rfl
set_option maxRecDepth 100000 in
theorem eX12_boundTo : Cond.selects (yX12_boundTo).cls yX12_boundTo yX12_boundTo ∈ q_tb := q_ms 133 rfl rfl
set_option maxRecDepth 100000 in
theorem wRX12_628 : Jvm.Cond.constantLong RX12 628 (15) ∈ q_tb := q_mt_10 237 rfl rfl
set_option maxRecDepth 100000 in
theorem gRX12_214 : q_gf RX12 214 12 83 := ⟨_, _, _, rfl, by decide, q_inT12, q_mt_7 203 rfl rfl⟩
set_option maxRecDepth 100000 in
theorem mX12_nameLeaf : q_mt yX12_nameLeaf cX12_nameLeaf 4 none 3 := ⟨q_mt_11 1 rfl rfl, q_mt_1 14 rfl rfl, ⟨q_ncRX12.1, q_ncRX12.2.1, by decide +kernel⟩, by decide⟩
set_option maxRecDepth 100000 in
theorem lRX12_630 : Cond.methodLink RX12 630 yX12_nameLeaf ∈ q_tb := q_mt_10 238 rfl rfl
set_option maxRecDepth 100000 in
theorem iX12_nameLeaf : Cond.instanceMethod yX12_nameLeaf ∈ q_tb := q_mt_11 0 rfl rfl
set_option maxRecDepth 100000 in
theorem eX12_nameLeaf : Cond.selects (yX12_nameLeaf).cls yX12_nameLeaf yX12_nameLeaf ∈ q_tb := q_ms 136 rfl rfl
set_option maxRecDepth 100000 in
theorem gRX12_217 : q_gf RX12 217 12 85 := ⟨_, _, _, rfl, by decide, q_inT12, q_mt_7 205 rfl rfl⟩
set_option maxRecDepth 100000 in
theorem gRX12_633 : q_gf RX12 633 12 84 := ⟨_, _, _, rfl, by decide, q_inT12, q_mt_7 204 rfl rfl⟩
set_option maxRecDepth 100000 in
theorem gRX12_220 : q_gf RX12 220 12 86 := ⟨_, _, _, rfl, by decide, q_inT12, q_mt_7 206 rfl rfl⟩
set_option maxRecDepth 100000 in
theorem gRX12_223 : q_gf RX12 223 12 87 := ⟨_, _, _, rfl, by decide, q_inT12, q_mt_7 207 rfl rfl⟩
set_option maxRecDepth 100000 in
theorem gRX12_226 : q_gf RX12 226 12 88 := ⟨_, _, _, rfl, by decide, q_inT12, q_mt_7 208 rfl rfl⟩
set_option maxRecDepth 100000 in
theorem gRX12_229 : q_gf RX12 229 12 89 := ⟨_, _, _, rfl, by decide, q_inT12, q_mt_7 209 rfl rfl⟩
set_option maxRecDepth 100000 in
theorem pRX12_633 : q_pf RX12 633 12 84 .int := ⟨_, _, _, tyX12, rfl, by decide, q_inT12, q_mt_7 204 rfl rfl, tyX12_ok, nmX12, rfl, tyX12_ok 84 (by decide)⟩
set_option maxRecDepth 100000 in
theorem mX12_pieceIn : q_mt yX12_pieceIn cX12_pieceIn 7 (some .int) 3 := ⟨q_mt_11 13 rfl rfl, q_mt_1 14 rfl rfl, ⟨q_ncRX12.1, q_ncRX12.2.1, by decide +kernel⟩, by decide⟩
set_option maxRecDepth 100000 in
theorem lRX12_636 : Cond.methodLink RX12 636 yX12_pieceIn ∈ q_tb := q_mt_11 10 rfl rfl
set_option maxRecDepth 100000 in
theorem iX12_pieceIn : Cond.instanceMethod yX12_pieceIn ∈ q_tb := q_mt_11 12 rfl rfl
set_option maxRecDepth 100000 in
theorem eX12_pieceIn : Cond.selects (yX12_pieceIn).cls yX12_pieceIn yX12_pieceIn ∈ q_tb := q_ms 138 rfl rfl
set_option maxRecDepth 100000 in
theorem mX12_hold : q_mt yX12_hold cX12_hold 5 none 4 := ⟨q_mt_11 17 rfl rfl, q_mt_1 14 rfl rfl, ⟨q_ncRX12.1, q_ncRX12.2.1, by decide +kernel⟩, by decide⟩
set_option maxRecDepth 100000 in
theorem lRX12_639 : Cond.methodLink RX12 639 yX12_hold ∈ q_tb := q_mt_11 14 rfl rfl
set_option maxRecDepth 100000 in
theorem iX12_hold : Cond.instanceMethod yX12_hold ∈ q_tb := q_mt_11 16 rfl rfl
set_option maxRecDepth 100000 in
theorem eX12_hold : Cond.selects (yX12_hold).cls yX12_hold yX12_hold ∈ q_tb := q_ms 139 rfl rfl
set_option maxRecDepth 100000 in
theorem gRX12_232 : q_gf RX12 232 12 90 := ⟨_, _, _, rfl, by decide, q_inT12, q_mt_7 210 rfl rfl⟩
set_option maxRecDepth 100000 in
theorem gRX12_235 : q_gf RX12 235 12 91 := ⟨_, _, _, rfl, by decide, q_inT12, q_mt_7 211 rfl rfl⟩
set_option maxRecDepth 100000 in
theorem mX12_top : q_mt yX12_top cX12_top 3 (some .int) 1 := ⟨q_mt_11 25 rfl rfl, q_mt_1 14 rfl rfl, ⟨q_ncRX12.1, q_ncRX12.2.1, by decide +kernel⟩, by decide⟩
set_option maxRecDepth 100000 in
theorem lRX12_642 : Cond.methodLink RX12 642 yX12_top ∈ q_tb := q_mt_11 22 rfl rfl
set_option maxRecDepth 100000 in
theorem iX12_top : Cond.instanceMethod yX12_top ∈ q_tb := q_mt_11 24 rfl rfl
set_option maxRecDepth 100000 in
theorem eX12_top : Cond.selects (yX12_top).cls yX12_top yX12_top ∈ q_tb := q_ms 141 rfl rfl
set_option maxRecDepth 100000 in
theorem mX12_findHeld : q_mt yX12_findHeld cX12_findHeld 7 none 1 := ⟨q_mt_11 9 rfl rfl, q_mt_1 14 rfl rfl, ⟨q_ncRX12.1, q_ncRX12.2.1, by decide +kernel⟩, by decide⟩
set_option maxRecDepth 100000 in
theorem lRX12_645 : Cond.methodLink RX12 645 yX12_findHeld ∈ q_tb := q_mt_11 6 rfl rfl
set_option maxRecDepth 100000 in
theorem iX12_findHeld : Cond.instanceMethod yX12_findHeld ∈ q_tb := q_mt_11 8 rfl rfl
set_option maxRecDepth 100000 in
theorem eX12_findHeld : Cond.selects (yX12_findHeld).cls yX12_findHeld yX12_findHeld ∈ q_tb := q_ms 137 rfl rfl
set_option maxRecDepth 100000 in
theorem mX12_isFault : q_mt yX12_isFault cX12_isFault 4 (some .boolean) 0 := ⟨q_mt_11 21 rfl rfl, q_mt_1 14 rfl rfl, ⟨q_ncRX12.1, q_ncRX12.2.1, by decide +kernel⟩, by decide⟩
set_option maxRecDepth 100000 in
theorem lRX12_648 : Cond.methodLink RX12 648 yX12_isFault ∈ q_tb := q_mt_11 18 rfl rfl
set_option maxRecDepth 100000 in
theorem iX12_isFault : Cond.instanceMethod yX12_isFault ∈ q_tb := q_mt_11 20 rfl rfl
set_option maxRecDepth 100000 in
theorem eX12_isFault : Cond.selects (yX12_isFault).cls yX12_isFault yX12_isFault ∈ q_tb := q_ms 140 rfl rfl
set_option maxRecDepth 100000 in
theorem mX12_findBlame : q_mt yX12_findBlame cX12_findBlame 4 (some .int) 1 := ⟨q_mt_11 33 rfl rfl, q_mt_1 14 rfl rfl, ⟨q_ncRX12.1, q_ncRX12.2.1, by decide +kernel⟩, by decide⟩
set_option maxRecDepth 100000 in
theorem lRX12_652 : Cond.methodLink RX12 652 yX12_findBlame ∈ q_tb := q_mt_11 30 rfl rfl
set_option maxRecDepth 100000 in
theorem iX12_findBlame : Cond.instanceMethod yX12_findBlame ∈ q_tb := q_mt_11 32 rfl rfl
set_option maxRecDepth 100000 in
theorem eX12_findBlame : Cond.selects (yX12_findBlame).cls yX12_findBlame yX12_findBlame ∈ q_tb := q_ms 142 rfl rfl
set_option maxRecDepth 100000 in
theorem mX12_blame : q_mt yX12_blame cX12_blame 4 (some .int) 1 := ⟨q_mt_11 37 rfl rfl, q_mt_1 14 rfl rfl, ⟨q_ncRX12.1, q_ncRX12.2.1, by decide +kernel⟩, by decide⟩
set_option maxRecDepth 100000 in
theorem lRX12_655 : Cond.methodLink RX12 655 yX12_blame ∈ q_tb := q_mt_11 34 rfl rfl
set_option maxRecDepth 100000 in
theorem iX12_blame : Cond.instanceMethod yX12_blame ∈ q_tb := q_mt_11 36 rfl rfl
set_option maxRecDepth 100000 in
theorem eX12_blame : Cond.selects (yX12_blame).cls yX12_blame yX12_blame ∈ q_tb := q_ms 143 rfl rfl
set_option maxRecDepth 100000 in
theorem gRX12_238 : q_gf RX12 238 12 92 := ⟨_, _, _, rfl, by decide, q_inT12, q_mt_7 212 rfl rfl⟩
set_option maxRecDepth 100000 in
theorem gRX12_658 : q_gf RX12 658 12 98 := ⟨_, _, _, rfl, by decide, q_inT12, q_mt_7 218 rfl rfl⟩
set_option maxRecDepth 100000 in
theorem gRX12_250 : q_gf RX12 250 12 99 := ⟨_, _, _, rfl, by decide, q_inT12, q_mt_7 219 rfl rfl⟩
set_option maxRecDepth 100000 in
theorem gRX12_253 : q_gf RX12 253 12 100 := ⟨_, _, _, rfl, by decide, q_inT12, q_mt_7 220 rfl rfl⟩
set_option maxRecDepth 100000 in
theorem gRX12_241 : q_gf RX12 241 12 95 := ⟨_, _, _, rfl, by decide, q_inT12, q_mt_7 215 rfl rfl⟩
set_option maxRecDepth 100000 in
theorem gRX12_661 : q_gf RX12 661 12 94 := ⟨_, _, _, rfl, by decide, q_inT12, q_mt_7 214 rfl rfl⟩
set_option maxRecDepth 100000 in
theorem gRX12_244 : q_gf RX12 244 12 96 := ⟨_, _, _, rfl, by decide, q_inT12, q_mt_7 216 rfl rfl⟩
set_option maxRecDepth 100000 in
theorem mX12_neededSlots : q_mt yX12_neededSlots cX12_neededSlots 1 (some .int) 1 := ⟨q_mt_11 65 rfl rfl, q_mt_1 14 rfl rfl, ⟨q_ncRX12.1, q_ncRX12.2.1, by decide +kernel⟩, by decide⟩
set_option maxRecDepth 100000 in
theorem lRX12_664 : Cond.methodLink RX12 664 yX12_neededSlots ∈ q_tb := q_mt_11 63 rfl rfl
set_option maxRecDepth 100000 in
theorem sX12_neededSlots : Cond.static yX12_neededSlots ∈ q_tb := q_mt_11 64 rfl rfl
set_option maxRecDepth 100000 in
theorem gRX12_247 : q_gf RX12 247 12 97 := ⟨_, _, _, rfl, by decide, q_inT12, q_mt_7 217 rfl rfl⟩
set_option maxRecDepth 100000 in
theorem pRX12_658 : q_pf RX12 658 12 98 .int := ⟨_, _, _, tyX12, rfl, by decide, q_inT12, q_mt_7 218 rfl rfl, tyX12_ok, nmX12, rfl, tyX12_ok 98 (by decide)⟩
set_option maxRecDepth 100000 in
theorem gRX12_667 : q_gf RX12 667 12 101 := ⟨_, _, _, rfl, by decide, q_inT12, q_mt_7 221 rfl rfl⟩
set_option maxRecDepth 100000 in
theorem pRX12_667 : q_pf RX12 667 12 101 .int := ⟨_, _, _, tyX12, rfl, by decide, q_inT12, q_mt_7 221 rfl rfl, tyX12_ok, nmX12, rfl, tyX12_ok 101 (by decide)⟩
set_option maxRecDepth 100000 in
theorem mX12_leafValue : q_mt yX12_leafValue cX12_leafValue 4 (some .int) 2 := ⟨q_mt_11 54 rfl rfl, q_mt_1 14 rfl rfl, ⟨q_ncRX12.1, q_ncRX12.2.1, by decide +kernel⟩, by decide⟩
set_option maxRecDepth 100000 in
theorem lRX12_670 : Cond.methodLink RX12 670 yX12_leafValue ∈ q_tb := q_mt_11 51 rfl rfl
set_option maxRecDepth 100000 in
theorem iX12_leafValue : Cond.instanceMethod yX12_leafValue ∈ q_tb := q_mt_11 53 rfl rfl
set_option maxRecDepth 100000 in
theorem eX12_leafValue : Cond.selects (yX12_leafValue).cls yX12_leafValue yX12_leafValue ∈ q_tb := q_ms 145 rfl rfl
set_option maxRecDepth 100000 in
theorem gRX12_673 : q_gf RX12 673 12 102 := ⟨_, _, _, rfl, by decide, q_inT12, q_mt_7 222 rfl rfl⟩
set_option maxRecDepth 100000 in
theorem pRX12_673 : q_pf RX12 673 12 102 .int := ⟨_, _, _, tyX12, rfl, by decide, q_inT12, q_mt_7 222 rfl rfl, tyX12_ok, nmX12, rfl, tyX12_ok 102 (by decide)⟩
set_option maxRecDepth 100000 in
theorem pRX12_661 : q_pf RX12 661 12 94 .int := ⟨_, _, _, tyX12, rfl, by decide, q_inT12, q_mt_7 214 rfl rfl, tyX12_ok, nmX12, rfl, tyX12_ok 94 (by decide)⟩
set_option maxRecDepth 100000 in
theorem mX12_enter : q_mt yX12_enter cX12_enter 4 none 2 := ⟨q_mt_11 58 rfl rfl, q_mt_1 14 rfl rfl, ⟨q_ncRX12.1, q_ncRX12.2.1, by decide +kernel⟩, by decide⟩
set_option maxRecDepth 100000 in
theorem lRX12_676 : Cond.methodLink RX12 676 yX12_enter ∈ q_tb := q_mt_11 55 rfl rfl
set_option maxRecDepth 100000 in
theorem iX12_enter : Cond.instanceMethod yX12_enter ∈ q_tb := q_mt_11 57 rfl rfl
set_option maxRecDepth 100000 in
theorem eX12_enter : Cond.selects (yX12_enter).cls yX12_enter yX12_enter ∈ q_tb := q_ms 146 rfl rfl
set_option maxRecDepth 100000 in
theorem mX12_nextSlot : q_mt yX12_nextSlot cX12_nextSlot 7 (some .int) 1 := ⟨q_mt_11 62 rfl rfl, q_mt_1 14 rfl rfl, ⟨q_ncRX12.1, q_ncRX12.2.1, by decide +kernel⟩, by decide⟩
set_option maxRecDepth 100000 in
theorem lRX12_679 : Cond.methodLink RX12 679 yX12_nextSlot ∈ q_tb := q_mt_11 59 rfl rfl
set_option maxRecDepth 100000 in
theorem iX12_nextSlot : Cond.instanceMethod yX12_nextSlot ∈ q_tb := q_mt_11 61 rfl rfl
set_option maxRecDepth 100000 in
theorem eX12_nextSlot : Cond.selects (yX12_nextSlot).cls yX12_nextSlot yX12_nextSlot ∈ q_tb := q_ms 147 rfl rfl
set_option maxRecDepth 100000 in
theorem mX12_take0 : q_mt yX12_take0 cX12_take0 5 none 2 := ⟨q_mt_11 69 rfl rfl, q_mt_1 14 rfl rfl, ⟨q_ncRX12.1, q_ncRX12.2.1, by decide +kernel⟩, by decide⟩
set_option maxRecDepth 100000 in
theorem lRX12_682 : Cond.methodLink RX12 682 yX12_take0 ∈ q_tb := q_mt_11 66 rfl rfl
set_option maxRecDepth 100000 in
theorem iX12_take0 : Cond.instanceMethod yX12_take0 ∈ q_tb := q_mt_11 68 rfl rfl
set_option maxRecDepth 100000 in
theorem eX12_take0 : Cond.selects (yX12_take0).cls yX12_take0 yX12_take0 ∈ q_tb := q_ms 148 rfl rfl
set_option maxRecDepth 100000 in
theorem wRX12_685 : Jvm.Cond.constantLong RX12 685 (1000) ∈ q_tb := q_mt_11 46 rfl rfl
set_option maxRecDepth 100000 in
theorem mX12_work : q_mt yX12_work cX12_work 6 (some .boolean) 3 := ⟨q_mt_11 50 rfl rfl, q_mt_1 14 rfl rfl, ⟨q_ncRX12.1, q_ncRX12.2.1, by decide +kernel⟩, by decide⟩
set_option maxRecDepth 100000 in
theorem lRX12_687 : Cond.methodLink RX12 687 yX12_work ∈ q_tb := q_mt_11 47 rfl rfl
set_option maxRecDepth 100000 in
theorem iX12_work : Cond.instanceMethod yX12_work ∈ q_tb := q_mt_11 49 rfl rfl
set_option maxRecDepth 100000 in
theorem eX12_work : Cond.selects (yX12_work).cls yX12_work yX12_work ∈ q_tb := q_ms 144 rfl rfl
set_option maxRecDepth 100000 in
theorem gRX12_690 : q_gf RX12 690 12 93 := ⟨_, _, _, rfl, by decide, q_inT12, q_mt_7 213 rfl rfl⟩
set_option maxRecDepth 100000 in
theorem pRX12_690 : q_pf RX12 690 12 93 .int := ⟨_, _, _, tyX12, rfl, by decide, q_inT12, q_mt_7 213 rfl rfl, tyX12_ok, nmX12, rfl, tyX12_ok 93 (by decide)⟩
set_option maxRecDepth 100000 in
theorem gRX12_277 : q_gf RX12 277 12 113 := ⟨_, _, _, rfl, by decide, q_inT12, q_mt_7 233 rfl rfl⟩
set_option maxRecDepth 100000 in
theorem gRX12_693 : q_gf RX12 693 12 111 := ⟨_, _, _, rfl, by decide, q_inT12, q_mt_7 231 rfl rfl⟩
set_option maxRecDepth 100000 in
theorem gRX12_274 : q_gf RX12 274 12 112 := ⟨_, _, _, rfl, by decide, q_inT12, q_mt_7 232 rfl rfl⟩
set_option maxRecDepth 100000 in
theorem pRX12_693 : q_pf RX12 693 12 111 .int := ⟨_, _, _, tyX12, rfl, by decide, q_inT12, q_mt_7 231 rfl rfl, tyX12_ok, nmX12, rfl, tyX12_ok 111 (by decide)⟩
set_option maxRecDepth 100000 in
theorem gRX12_696 : q_gf RX12 696 12 107 := ⟨_, _, _, rfl, by decide, q_inT12, q_mt_7 227 rfl rfl⟩
set_option maxRecDepth 100000 in
theorem pRX12_696 : q_pf RX12 696 12 107 .int := ⟨_, _, _, tyX12, rfl, by decide, q_inT12, q_mt_7 227 rfl rfl, tyX12_ok, nmX12, rfl, tyX12_ok 107 (by decide)⟩
set_option maxRecDepth 100000 in
theorem gRX12_268 : q_gf RX12 268 12 109 := ⟨_, _, _, rfl, by decide, q_inT12, q_mt_7 229 rfl rfl⟩
set_option maxRecDepth 100000 in
theorem gRX12_271 : q_gf RX12 271 12 110 := ⟨_, _, _, rfl, by decide, q_inT12, q_mt_7 230 rfl rfl⟩
set_option maxRecDepth 100000 in
theorem gRX12_265 : q_gf RX12 265 12 108 := ⟨_, _, _, rfl, by decide, q_inT12, q_mt_7 228 rfl rfl⟩
set_option maxRecDepth 100000 in
theorem mX12_isOneForm : q_mt yX12_isOneForm cX12_isOneForm 4 (some .boolean) 1 := ⟨q_mt_11 93 rfl rfl, q_mt_1 14 rfl rfl, ⟨q_ncRX12.1, q_ncRX12.2.1, by decide +kernel⟩, by decide⟩
set_option maxRecDepth 100000 in
theorem lRX12_699 : Cond.methodLink RX12 699 yX12_isOneForm ∈ q_tb := q_mt_11 90 rfl rfl
set_option maxRecDepth 100000 in
theorem iX12_isOneForm : Cond.instanceMethod yX12_isOneForm ∈ q_tb := q_mt_11 92 rfl rfl
set_option maxRecDepth 100000 in
theorem eX12_isOneForm : Cond.selects (yX12_isOneForm).cls yX12_isOneForm yX12_isOneForm ∈ q_tb := q_ms 150 rfl rfl
set_option maxRecDepth 100000 in
theorem mX12_isOneLeaf : q_mt yX12_isOneLeaf cX12_isOneLeaf 3 (some .boolean) 0 := ⟨q_mt_11 97 rfl rfl, q_mt_1 14 rfl rfl, ⟨q_ncRX12.1, q_ncRX12.2.1, by decide +kernel⟩, by decide⟩
set_option maxRecDepth 100000 in
theorem lRX12_702 : Cond.methodLink RX12 702 yX12_isOneLeaf ∈ q_tb := q_mt_11 94 rfl rfl
set_option maxRecDepth 100000 in
theorem iX12_isOneLeaf : Cond.instanceMethod yX12_isOneLeaf ∈ q_tb := q_mt_11 96 rfl rfl
set_option maxRecDepth 100000 in
theorem eX12_isOneLeaf : Cond.selects (yX12_isOneLeaf).cls yX12_isOneLeaf yX12_isOneLeaf ∈ q_tb := q_ms 151 rfl rfl
set_option maxRecDepth 100000 in
theorem mX12_holeFor : q_mt yX12_holeFor cX12_holeFor 5 (some .int) 1 := ⟨q_mt_11 101 rfl rfl, q_mt_1 14 rfl rfl, ⟨q_ncRX12.1, q_ncRX12.2.1, by decide +kernel⟩, by decide⟩
set_option maxRecDepth 100000 in
theorem lRX12_705 : Cond.methodLink RX12 705 yX12_holeFor ∈ q_tb := q_mt_11 98 rfl rfl
set_option maxRecDepth 100000 in
theorem iX12_holeFor : Cond.instanceMethod yX12_holeFor ∈ q_tb := q_mt_11 100 rfl rfl
set_option maxRecDepth 100000 in
theorem eX12_holeFor : Cond.selects (yX12_holeFor).cls yX12_holeFor yX12_holeFor ∈ q_tb := q_ms 152 rfl rfl
set_option maxRecDepth 100000 in
theorem mX12_newHole : q_mt yX12_newHole cX12_newHole 2 (some .int) 0 := ⟨q_mt_11 105 rfl rfl, q_mt_1 14 rfl rfl, ⟨q_ncRX12.1, q_ncRX12.2.1, by decide +kernel⟩, by decide⟩
set_option maxRecDepth 100000 in
theorem lRX12_708 : Cond.methodLink RX12 708 yX12_newHole ∈ q_tb := q_mt_11 102 rfl rfl
set_option maxRecDepth 100000 in
theorem iX12_newHole : Cond.instanceMethod yX12_newHole ∈ q_tb := q_mt_11 104 rfl rfl
set_option maxRecDepth 100000 in
theorem eX12_newHole : Cond.selects (yX12_newHole).cls yX12_newHole yX12_newHole ∈ q_tb := q_ms 153 rfl rfl
set_option maxRecDepth 100000 in
theorem mX12_layOver : q_mt yX12_layOver cX12_layOver 9 (some .boolean) 2 := ⟨q_mt_11 89 rfl rfl, q_mt_1 14 rfl rfl, ⟨q_ncRX12.1, q_ncRX12.2.1, by decide +kernel⟩, by decide⟩
set_option maxRecDepth 100000 in
theorem lRX12_711 : Cond.methodLink RX12 711 yX12_layOver ∈ q_tb := q_mt_11 86 rfl rfl
set_option maxRecDepth 100000 in
theorem iX12_layOver : Cond.instanceMethod yX12_layOver ∈ q_tb := q_mt_11 88 rfl rfl
set_option maxRecDepth 100000 in
theorem eX12_layOver : Cond.selects (yX12_layOver).cls yX12_layOver yX12_layOver ∈ q_tb := q_ms 149 rfl rfl
set_option maxRecDepth 100000 in
theorem gRX12_259 : q_gf RX12 259 12 105 := ⟨_, _, _, rfl, by decide, q_inT12, q_mt_7 225 rfl rfl⟩
set_option maxRecDepth 100000 in
theorem mX12_isTurn : q_mt yX12_isTurn cX12_isTurn 2 (some .boolean) 1 := ⟨q_mt_11 113 rfl rfl, q_mt_1 14 rfl rfl, ⟨q_ncRX12.1, q_ncRX12.2.1, by decide +kernel⟩, by decide⟩
set_option maxRecDepth 100000 in
theorem lRX12_714 : Cond.methodLink RX12 714 yX12_isTurn ∈ q_tb := q_mt_11 110 rfl rfl
set_option maxRecDepth 100000 in
theorem iX12_isTurn : Cond.instanceMethod yX12_isTurn ∈ q_tb := q_mt_11 112 rfl rfl
set_option maxRecDepth 100000 in
theorem eX12_isTurn : Cond.selects (yX12_isTurn).cls yX12_isTurn yX12_isTurn ∈ q_tb := q_ms 154 rfl rfl
set_option maxRecDepth 100000 in
theorem gRX12_717 : q_gf RX12 717 12 114 := ⟨_, _, _, rfl, by decide, q_inT12, q_mt_7 234 rfl rfl⟩
set_option maxRecDepth 100000 in
theorem pRX12_717 : q_pf RX12 717 12 114 .int := ⟨_, _, _, tyX12, rfl, by decide, q_inT12, q_mt_7 234 rfl rfl, tyX12_ok, nmX12, rfl, tyX12_ok 114 (by decide)⟩
set_option maxRecDepth 100000 in
theorem gRX12_280 : q_gf RX12 280 12 115 := ⟨_, _, _, rfl, by decide, q_inT12, q_mt_7 235 rfl rfl⟩
set_option maxRecDepth 100000 in
theorem gRX12_283 : q_gf RX12 283 12 116 := ⟨_, _, _, rfl, by decide, q_inT12, q_mt_7 236 rfl rfl⟩
set_option maxRecDepth 100000 in
theorem pRX12_400 : q_pf RX12 400 12 31 .int := ⟨_, _, _, tyX12, rfl, by decide, q_inT12, q_mt_7 151 rfl rfl, tyX12_ok, nmX12, rfl, tyX12_ok 31 (by decide)⟩
set_option maxRecDepth 100000 in
theorem pRX12_403 : q_pf RX12 403 12 32 .int := ⟨_, _, _, tyX12, rfl, by decide, q_inT12, q_mt_7 152 rfl rfl, tyX12_ok, nmX12, rfl, tyX12_ok 32 (by decide)⟩
set_option maxRecDepth 100000 in
theorem pRX12_397 : q_pf RX12 397 12 33 .int := ⟨_, _, _, tyX12, rfl, by decide, q_inT12, q_mt_7 153 rfl rfl, tyX12_ok, nmX12, rfl, tyX12_ok 33 (by decide)⟩
set_option maxRecDepth 100000 in
theorem mX12_turnInto : q_mt yX12_turnInto cX12_turnInto 6 none 5 := ⟨q_mt_11 125 rfl rfl, q_mt_1 14 rfl rfl, ⟨q_ncRX12.1, q_ncRX12.2.1, by decide +kernel⟩, by decide⟩
set_option maxRecDepth 100000 in
theorem lRX12_720 : Cond.methodLink RX12 720 yX12_turnInto ∈ q_tb := q_mt_11 122 rfl rfl
set_option maxRecDepth 100000 in
theorem iX12_turnInto : Cond.instanceMethod yX12_turnInto ∈ q_tb := q_mt_11 124 rfl rfl
set_option maxRecDepth 100000 in
theorem eX12_turnInto : Cond.selects (yX12_turnInto).cls yX12_turnInto yX12_turnInto ∈ q_tb := q_ms 155 rfl rfl
set_option maxRecDepth 100000 in
theorem gRX12_286 : q_gf RX12 286 12 117 := ⟨_, _, _, rfl, by decide, q_inT12, q_mt_7 237 rfl rfl⟩
set_option maxRecDepth 100000 in
theorem mX12_holesIn : q_mt yX12_holesIn cX12_holesIn 4 (some .int) 1 := ⟨q_mt_11 137 rfl rfl, q_mt_1 14 rfl rfl, ⟨q_ncRX12.1, q_ncRX12.2.1, by decide +kernel⟩, by decide⟩
set_option maxRecDepth 100000 in
theorem lRX12_723 : Cond.methodLink RX12 723 yX12_holesIn ∈ q_tb := q_mt_11 134 rfl rfl
set_option maxRecDepth 100000 in
theorem iX12_holesIn : Cond.instanceMethod yX12_holesIn ∈ q_tb := q_mt_11 136 rfl rfl
set_option maxRecDepth 100000 in
theorem eX12_holesIn : Cond.selects (yX12_holesIn).cls yX12_holesIn yX12_holesIn ∈ q_tb := q_ms 156 rfl rfl
set_option maxRecDepth 100000 in
theorem mX12_sought : q_mt yX12_sought cX12_sought 4 (some .int) 2 := ⟨q_mt_11 141 rfl rfl, q_mt_1 14 rfl rfl, ⟨q_ncRX12.1, q_ncRX12.2.1, by decide +kernel⟩, by decide⟩
set_option maxRecDepth 100000 in
theorem lRX12_726 : Cond.methodLink RX12 726 yX12_sought ∈ q_tb := q_mt_11 138 rfl rfl
set_option maxRecDepth 100000 in
theorem iX12_sought : Cond.instanceMethod yX12_sought ∈ q_tb := q_mt_11 140 rfl rfl
set_option maxRecDepth 100000 in
theorem eX12_sought : Cond.selects (yX12_sought).cls yX12_sought yX12_sought ∈ q_tb := q_ms 157 rfl rfl
set_option maxRecDepth 100000 in
theorem mX12_kindOfItem : q_mt yX12_kindOfItem cX12_kindOfItem 1 (some .int) 1 := ⟨q_mt_11 152 rfl rfl, q_mt_1 14 rfl rfl, ⟨q_ncRX12.1, q_ncRX12.2.1, by decide +kernel⟩, by decide⟩
set_option maxRecDepth 100000 in
theorem lRX12_729 : Cond.methodLink RX12 729 yX12_kindOfItem ∈ q_tb := q_mt_11 150 rfl rfl
set_option maxRecDepth 100000 in
theorem sX12_kindOfItem : Cond.static yX12_kindOfItem ∈ q_tb := q_mt_11 151 rfl rfl
set_option maxRecDepth 100000 in
theorem gRX12_292 : q_gf RX12 292 12 119 := ⟨_, _, _, rfl, by decide, q_inT12, q_mt_7 239 rfl rfl⟩
set_option maxRecDepth 100000 in
theorem mX12_firstLeft : q_mt yX12_firstLeft cX12_firstLeft 3 (some .int) 1 := ⟨q_mt_11 164 rfl rfl, q_mt_1 14 rfl rfl, ⟨q_ncRX12.1, q_ncRX12.2.1, by decide +kernel⟩, by decide⟩
set_option maxRecDepth 100000 in
theorem lRX12_732 : Cond.methodLink RX12 732 yX12_firstLeft ∈ q_tb := q_mt_11 161 rfl rfl
set_option maxRecDepth 100000 in
theorem iX12_firstLeft : Cond.instanceMethod yX12_firstLeft ∈ q_tb := q_mt_11 163 rfl rfl
set_option maxRecDepth 100000 in
theorem eX12_firstLeft : Cond.selects (yX12_firstLeft).cls yX12_firstLeft yX12_firstLeft ∈ q_tb := q_ms 158 rfl rfl
set_option maxRecDepth 100000 in
theorem mX12_stands : q_mt yX12_stands cX12_stands 7 (some .boolean) 1 := ⟨q_mt_11 172 rfl rfl, q_mt_1 14 rfl rfl, ⟨q_ncRX12.1, q_ncRX12.2.1, by decide +kernel⟩, by decide⟩
set_option maxRecDepth 100000 in
theorem lRX12_735 : Cond.methodLink RX12 735 yX12_stands ∈ q_tb := q_mt_11 169 rfl rfl
set_option maxRecDepth 100000 in
theorem iX12_stands : Cond.instanceMethod yX12_stands ∈ q_tb := q_mt_11 171 rfl rfl
set_option maxRecDepth 100000 in
theorem eX12_stands : Cond.selects (yX12_stands).cls yX12_stands yX12_stands ∈ q_tb := q_ms 159 rfl rfl
set_option maxRecDepth 100000 in
theorem gRX12_738 : q_gf RX12 738 12 120 := ⟨_, _, _, rfl, by decide, q_inT12, q_mt_8 0 rfl rfl⟩
set_option maxRecDepth 100000 in
theorem pRX12_738 : q_pf RX12 738 12 120 .int := ⟨_, _, _, tyX12, rfl, by decide, q_inT12, q_mt_8 0 rfl rfl, tyX12_ok, nmX12, rfl, tyX12_ok 120 (by decide)⟩
set_option maxRecDepth 100000 in
theorem gRX12_741 : q_gf RX12 741 12 121 := ⟨_, _, _, rfl, by decide, q_inT12, q_mt_8 1 rfl rfl⟩
set_option maxRecDepth 100000 in
theorem pRX12_741 : q_pf RX12 741 12 121 .int := ⟨_, _, _, tyX12, rfl, by decide, q_inT12, q_mt_8 1 rfl rfl, tyX12_ok, nmX12, rfl, tyX12_ok 121 (by decide)⟩
set_option maxRecDepth 100000 in
theorem mX12_findHint : q_mt yX12_findHint cX12_findHint 5 (some .boolean) 2 := ⟨q_mt_11 180 rfl rfl, q_mt_1 14 rfl rfl, ⟨q_ncRX12.1, q_ncRX12.2.1, by decide +kernel⟩, by decide⟩
set_option maxRecDepth 100000 in
theorem lRX12_744 : Cond.methodLink RX12 744 yX12_findHint ∈ q_tb := q_mt_11 177 rfl rfl
set_option maxRecDepth 100000 in
theorem iX12_findHint : Cond.instanceMethod yX12_findHint ∈ q_tb := q_mt_11 179 rfl rfl
set_option maxRecDepth 100000 in
theorem eX12_findHint : Cond.selects (yX12_findHint).cls yX12_findHint yX12_findHint ∈ q_tb := q_ms 160 rfl rfl
set_option maxRecDepth 100000 in
theorem mX12_isSheet : q_mt yX12_isSheet cX12_isSheet 1 (some .boolean) 1 := ⟨q_mt_11 187 rfl rfl, q_mt_1 14 rfl rfl, ⟨q_ncRX12.1, q_ncRX12.2.1, by decide +kernel⟩, by decide⟩
set_option maxRecDepth 100000 in
theorem lRX12_747 : Cond.methodLink RX12 747 yX12_isSheet ∈ q_tb := q_mt_11 185 rfl rfl
set_option maxRecDepth 100000 in
theorem sX12_isSheet : Cond.static yX12_isSheet ∈ q_tb := q_mt_11 186 rfl rfl
set_option maxRecDepth 100000 in
theorem gRX12_298 : q_gf RX12 298 12 123 := ⟨_, _, _, rfl, by decide, q_inT12, q_mt_8 3 rfl rfl⟩
set_option maxRecDepth 100000 in
theorem gRX12_301 : q_gf RX12 301 12 124 := ⟨_, _, _, rfl, by decide, q_inT12, q_mt_8 4 rfl rfl⟩
set_option maxRecDepth 100000 in
theorem kRX12_750 : Jvm.Cond.constant RX12 750 (65535) ∈ q_tb := q_mt_11 195 rfl rfl
set_option maxRecDepth 100000 in
theorem kRX12_751 : Jvm.Cond.constant RX12 751 (32768) ∈ q_tb := q_mt_11 196 rfl rfl
set_option maxRecDepth 100000 in
theorem mX12_asForm : q_mt yX12_asForm cX12_asForm 2 (some .int) 2 := ⟨q_mt_11 194 rfl rfl, q_mt_1 14 rfl rfl, ⟨q_ncRX12.1, q_ncRX12.2.1, by decide +kernel⟩, by decide⟩
set_option maxRecDepth 100000 in
theorem lRX12_752 : Cond.methodLink RX12 752 yX12_asForm ∈ q_tb := q_mt_11 192 rfl rfl
set_option maxRecDepth 100000 in
theorem sX12_asForm : Cond.static yX12_asForm ∈ q_tb := q_mt_11 193 rfl rfl
set_option maxRecDepth 100000 in
theorem gRX12_304 : q_gf RX12 304 12 125 := ⟨_, _, _, rfl, by decide, q_inT12, q_mt_8 5 rfl rfl⟩
set_option maxRecDepth 100000 in
theorem kRJ6_265 : Jvm.Cond.constant RJ6 265 (1431655765) ∈ q_tb := q_mt_4 232 rfl rfl
set_option maxRecDepth 100000 in
theorem kRJ6_266 : Jvm.Cond.constant RJ6 266 (858993459) ∈ q_tb := q_mt_4 233 rfl rfl
set_option maxRecDepth 100000 in
theorem kRJ6_267 : Jvm.Cond.constant RJ6 267 (252645135) ∈ q_tb := q_mt_4 234 rfl rfl
set_option maxRecDepth 100000 in
theorem mX11_length : q_mt yX11_length cX11_length 4 (some .int) 3 := ⟨q_mt_3 151 rfl rfl, q_mt_1 1 rfl rfl, ⟨q_ncRX11.1, q_ncRX11.2.1, by decide +kernel⟩, by decide⟩
set_option maxRecDepth 100000 in
theorem mX11_form : q_mt yX11_form cX11_form 9 (some .int) 7 := ⟨q_mt_3 169 rfl rfl, q_mt_1 1 rfl rfl, ⟨q_ncRX11.1, q_ncRX11.2.1, by decide +kernel⟩, by decide⟩
set_option maxRecDepth 100000 in
theorem mX11_clear : q_mt yX11_clear cX11_clear 4 (some .int) 1 := ⟨q_mt_3 197 rfl rfl, q_mt_1 1 rfl rfl, ⟨q_ncRX11.1, q_ncRX11.2.1, by decide +kernel⟩, by decide⟩
set_option maxRecDepth 100000 in
theorem mX11_forms : q_mt yX11_forms cX11_forms 5 (some .int) 3 := ⟨q_mt_3 209 rfl rfl, q_mt_1 1 rfl rfl, ⟨q_ncRX11.1, q_ncRX11.2.1, by decide +kernel⟩, by decide⟩
set_option maxRecDepth 100000 in
theorem mX11_gap : q_mt yX11_gap cX11_gap 6 (some .int) 4 := ⟨q_mt_3 217 rfl rfl, q_mt_1 1 rfl rfl, ⟨q_ncRX11.1, q_ncRX11.2.1, by decide +kernel⟩, by decide⟩
set_option maxRecDepth 100000 in
theorem mX11_name : q_mt yX11_name cX11_name 6 (some .int) 4 := ⟨q_mt_3 221 rfl rfl, q_mt_1 1 rfl rfl, ⟨q_ncRX11.1, q_ncRX11.2.1, by decide +kernel⟩, by decide⟩
set_option maxRecDepth 100000 in
theorem mX11_scope : q_mt yX11_scope cX11_scope 5 (some .int) 3 := ⟨q_mt_3 226 rfl rfl, q_mt_1 1 rfl rfl, ⟨q_ncRX11.1, q_ncRX11.2.1, by decide +kernel⟩, by decide⟩
set_option maxRecDepth 100000 in
theorem mX11_rule : q_mt yX11_rule cX11_rule 9 (some .int) 4 := ⟨q_mt_3 230 rfl rfl, q_mt_1 1 rfl rfl, ⟨q_ncRX11.1, q_ncRX11.2.1, by decide +kernel⟩, by decide⟩
set_option maxRecDepth 100000 in
theorem mX11_unrule : q_mt yX11_unrule cX11_unrule 3 (some .int) 2 := ⟨q_mt_3 238 rfl rfl, q_mt_1 1 rfl rfl, ⟨q_ncRX11.1, q_ncRX11.2.1, by decide +kernel⟩, by decide⟩
set_option maxRecDepth 100000 in
theorem mX11_mean : q_mt yX11_mean cX11_mean 4 (some .int) 3 := ⟨q_mt_4 2 rfl rfl, q_mt_1 1 rfl rfl, ⟨q_ncRX11.1, q_ncRX11.2.1, by decide +kernel⟩, by decide⟩
set_option maxRecDepth 100000 in
theorem mX11_count : q_mt yX11_count cX11_count 2 (some .int) 1 := ⟨q_mt_4 6 rfl rfl, q_mt_1 1 rfl rfl, ⟨q_ncRX11.1, q_ncRX11.2.1, by decide +kernel⟩, by decide⟩
set_option maxRecDepth 100000 in
theorem mX11_cell : q_mt yX11_cell cX11_cell 3 (some .int) 2 := ⟨q_mt_4 26 rfl rfl, q_mt_1 1 rfl rfl, ⟨q_ncRX11.1, q_ncRX11.2.1, by decide +kernel⟩, by decide⟩
set_option maxRecDepth 100000 in
theorem mX11_put : q_mt yX11_put cX11_put 4 (some .int) 3 := ⟨q_mt_4 42 rfl rfl, q_mt_1 1 rfl rfl, ⟨q_ncRX11.1, q_ncRX11.2.1, by decide +kernel⟩, by decide⟩
set_option maxRecDepth 100000 in
theorem mX11_wipe : q_mt yX11_wipe cX11_wipe 2 (some .int) 1 := ⟨q_mt_4 46 rfl rfl, q_mt_1 1 rfl rfl, ⟨q_ncRX11.1, q_ncRX11.2.1, by decide +kernel⟩, by decide⟩
set_option maxRecDepth 100000 in
theorem mX11_at : q_mt yX11_at cX11_at 3 (some .int) 2 := ⟨q_mt_4 50 rfl rfl, q_mt_1 1 rfl rfl, ⟨q_ncRX11.1, q_ncRX11.2.1, by decide +kernel⟩, by decide⟩
set_option maxRecDepth 100000 in
theorem mX11_readings : q_mt yX11_readings cX11_readings 3 (some .int) 2 := ⟨q_mt_4 54 rfl rfl, q_mt_1 1 rfl rfl, ⟨q_ncRX11.1, q_ncRX11.2.1, by decide +kernel⟩, by decide⟩
set_option maxRecDepth 100000 in
theorem mX11_read : q_mt yX11_read cX11_read 4 (some .int) 3 := ⟨q_mt_4 95 rfl rfl, q_mt_1 1 rfl rfl, ⟨q_ncRX11.1, q_ncRX11.2.1, by decide +kernel⟩, by decide⟩
set_option maxRecDepth 100000 in
theorem mX11_idle : q_mt yX11_idle cX11_idle 2 (some .int) 1 := ⟨q_mt_4 192 rfl rfl, q_mt_1 1 rfl rfl, ⟨q_ncRX11.1, q_ncRX11.2.1, by decide +kernel⟩, by decide⟩
set_option maxRecDepth 100000 in
theorem mX11_rows : q_mt yX11_rows cX11_rows 4 (some .int) 3 := ⟨q_mt_4 217 rfl rfl, q_mt_1 1 rfl rfl, ⟨q_ncRX11.1, q_ncRX11.2.1, by decide +kernel⟩, by decide⟩
set_option maxRecDepth 100000 in
theorem mX11_two : q_mt yX11_two cX11_two 4 (some .int) 3 := ⟨q_mt_5 23 rfl rfl, q_mt_1 1 rfl rfl, ⟨q_ncRX11.1, q_ncRX11.2.1, by decide +kernel⟩, by decide⟩
set_option maxRecDepth 100000 in
theorem mX11_price : q_mt yX11_price cX11_price 4 (some .int) 2 := ⟨q_mt_5 37 rfl rfl, q_mt_1 1 rfl rfl, ⟨q_ncRX11.1, q_ncRX11.2.1, by decide +kernel⟩, by decide⟩
set_option maxRecDepth 100000 in
theorem mX11_mend : q_mt yX11_mend cX11_mend 4 (some .int) 3 := ⟨q_mt_5 42 rfl rfl, q_mt_1 1 rfl rfl, ⟨q_ncRX11.1, q_ncRX11.2.1, by decide +kernel⟩, by decide⟩
set_option maxRecDepth 100000 in
theorem mX11_size : q_mt yX11_size cX11_size 3 (some .int) 2 := ⟨q_mt_5 46 rfl rfl, q_mt_1 1 rfl rfl, ⟨q_ncRX11.1, q_ncRX11.2.1, by decide +kernel⟩, by decide⟩
set_option maxRecDepth 100000 in
theorem mX11_node : q_mt yX11_node cX11_node 6 (some .int) 3 := ⟨q_mt_5 80 rfl rfl, q_mt_1 1 rfl rfl, ⟨q_ncRX11.1, q_ncRX11.2.1, by decide +kernel⟩, by decide⟩
set_option maxRecDepth 100000 in
theorem mX11_slot : q_mt yX11_slot cX11_slot 7 (some .int) 3 := ⟨q_mt_5 92 rfl rfl, q_mt_1 1 rfl rfl, ⟨q_ncRX11.1, q_ncRX11.2.1, by decide +kernel⟩, by decide⟩
set_option maxRecDepth 100000 in
theorem mX11_leaf : q_mt yX11_leaf cX11_leaf 6 (some .int) 3 := ⟨q_mt_5 101 rfl rfl, q_mt_1 1 rfl rfl, ⟨q_ncRX11.1, q_ncRX11.2.1, by decide +kernel⟩, by decide⟩
set_option maxRecDepth 100000 in
theorem mX11_spell : q_mt yX11_spell cX11_spell 3 (some .int) 2 := ⟨q_mt_5 109 rfl rfl, q_mt_1 1 rfl rfl, ⟨q_ncRX11.1, q_ncRX11.2.1, by decide +kernel⟩, by decide⟩
set_option maxRecDepth 100000 in
theorem mX11_write : q_mt yX11_write cX11_write 3 (some .int) 2 := ⟨q_mt_5 118 rfl rfl, q_mt_1 1 rfl rfl, ⟨q_ncRX11.1, q_ncRX11.2.1, by decide +kernel⟩, by decide⟩
set_option maxRecDepth 100000 in
theorem mX11_keep : q_mt yX11_keep cX11_keep 3 (some .int) 2 := ⟨q_mt_5 123 rfl rfl, q_mt_1 1 rfl rfl, ⟨q_ncRX11.1, q_ncRX11.2.1, by decide +kernel⟩, by decide⟩
set_option maxRecDepth 100000 in
theorem mX11_strike : q_mt yX11_strike cX11_strike 2 (some .int) 1 := ⟨q_mt_5 127 rfl rfl, q_mt_1 1 rfl rfl, ⟨q_ncRX11.1, q_ncRX11.2.1, by decide +kernel⟩, by decide⟩
set_option maxRecDepth 100000 in
theorem mX11_like : q_mt yX11_like cX11_like 5 (some .int) 4 := ⟨q_mt_5 131 rfl rfl, q_mt_1 1 rfl rfl, ⟨q_ncRX11.1, q_ncRX11.2.1, by decide +kernel⟩, by decide⟩
set_option maxRecDepth 100000 in
theorem mX11_pin : q_mt yX11_pin cX11_pin 4 (some .int) 3 := ⟨q_mt_5 138 rfl rfl, q_mt_1 1 rfl rfl, ⟨q_ncRX11.1, q_ncRX11.2.1, by decide +kernel⟩, by decide⟩
set_option maxRecDepth 100000 in
theorem mX11_lay : q_mt yX11_lay cX11_lay 4 (some .int) 3 := ⟨q_mt_5 142 rfl rfl, q_mt_1 1 rfl rfl, ⟨q_ncRX11.1, q_ncRX11.2.1, by decide +kernel⟩, by decide⟩
set_option maxRecDepth 100000 in
theorem mX11_laid : q_mt yX11_laid cX11_laid 5 (some .int) 4 := ⟨q_mt_5 164 rfl rfl, q_mt_1 1 rfl rfl, ⟨q_ncRX11.1, q_ncRX11.2.1, by decide +kernel⟩, by decide⟩
set_option maxRecDepth 100000 in
theorem mX11_distance : q_mt yX11_distance cX11_distance 3 (some .int) 2 := ⟨q_mt_5 168 rfl rfl, q_mt_1 1 rfl rfl, ⟨q_ncRX11.1, q_ncRX11.2.1, by decide +kernel⟩, by decide⟩
set_option maxRecDepth 100000 in
theorem mX11_move : q_mt yX11_move cX11_move 4 (some .int) 3 := ⟨q_mt_5 195 rfl rfl, q_mt_1 1 rfl rfl, ⟨q_ncRX11.1, q_ncRX11.2.1, by decide +kernel⟩, by decide⟩
set_option maxRecDepth 100000 in
theorem mX11_join : q_mt yX11_join cX11_join 7 (some .int) 4 := ⟨q_mt_5 205 rfl rfl, q_mt_1 1 rfl rfl, ⟨q_ncRX11.1, q_ncRX11.2.1, by decide +kernel⟩, by decide⟩
set_option maxRecDepth 100000 in
theorem mX11_bound : q_mt yX11_bound cX11_bound 3 (some .int) 2 := ⟨q_mt_5 224 rfl rfl, q_mt_1 1 rfl rfl, ⟨q_ncRX11.1, q_ncRX11.2.1, by decide +kernel⟩, by decide⟩
set_option maxRecDepth 100000 in
theorem mX11_uses : q_mt yX11_uses cX11_uses 3 (some .int) 2 := ⟨q_mt_6 17 rfl rfl, q_mt_1 1 rfl rfl, ⟨q_ncRX11.1, q_ncRX11.2.1, by decide +kernel⟩, by decide⟩
set_option maxRecDepth 100000 in
theorem mX11_rename : q_mt yX11_rename cX11_rename 6 (some .int) 3 := ⟨q_mt_6 26 rfl rfl, q_mt_1 1 rfl rfl, ⟨q_ncRX11.1, q_ncRX11.2.1, by decide +kernel⟩, by decide⟩
set_option maxRecDepth 100000 in
theorem mX11_kind : q_mt yX11_kind cX11_kind 4 (some .int) 3 := ⟨q_mt_6 43 rfl rfl, q_mt_1 1 rfl rfl, ⟨q_ncRX11.1, q_ncRX11.2.1, by decide +kernel⟩, by decide⟩
set_option maxRecDepth 100000 in
theorem mX11_blamed : q_mt yX11_blamed cX11_blamed 3 (some .int) 2 := ⟨q_mt_6 82 rfl rfl, q_mt_1 1 rfl rfl, ⟨q_ncRX11.1, q_ncRX11.2.1, by decide +kernel⟩, by decide⟩
set_option maxRecDepth 100000 in
theorem mX11_world : q_mt yX11_world cX11_world 4 (some .int) 3 := ⟨q_mt_6 99 rfl rfl, q_mt_1 1 rfl rfl, ⟨q_ncRX11.1, q_ncRX11.2.1, by decide +kernel⟩, by decide⟩
set_option maxRecDepth 100000 in
theorem mX11_run : q_mt yX11_run cX11_run 5 (some .int) 3 := ⟨q_mt_6 106 rfl rfl, q_mt_1 1 rfl rfl, ⟨q_ncRX11.1, q_ncRX11.2.1, by decide +kernel⟩, by decide⟩
set_option maxRecDepth 100000 in
theorem mX11_value : q_mt yX11_value cX11_value 1 (some .int) 0 := ⟨q_mt_6 146 rfl rfl, q_mt_1 1 rfl rfl, ⟨q_ncRX11.1, q_ncRX11.2.1, by decide +kernel⟩, by decide⟩
set_option maxRecDepth 100000 in
theorem mX11_show : q_mt yX11_show cX11_show 4 (some .int) 2 := ⟨q_mt_6 150 rfl rfl, q_mt_1 1 rfl rfl, ⟨q_ncRX11.1, q_ncRX11.2.1, by decide +kernel⟩, by decide⟩
set_option maxRecDepth 100000 in
theorem mX11_hide : q_mt yX11_hide cX11_hide 2 (some .int) 0 := ⟨q_mt_6 159 rfl rfl, q_mt_1 1 rfl rfl, ⟨q_ncRX11.1, q_ncRX11.2.1, by decide +kernel⟩, by decide⟩
set_option maxRecDepth 100000 in
theorem mX11_find : q_mt yX11_find cX11_find 2 (some .int) 1 := ⟨q_mt_6 163 rfl rfl, q_mt_1 1 rfl rfl, ⟨q_ncRX11.1, q_ncRX11.2.1, by decide +kernel⟩, by decide⟩
set_option maxRecDepth 100000 in
theorem mX11_turned : q_mt yX11_turned cX11_turned 5 (some .int) 3 := ⟨q_mt_6 202 rfl rfl, q_mt_1 1 rfl rfl, ⟨q_ncRX11.1, q_ncRX11.2.1, by decide +kernel⟩, by decide⟩
set_option maxRecDepth 100000 in
theorem mX11_fits : q_mt yX11_fits cX11_fits 4 (some .int) 2 := ⟨q_mt_6 211 rfl rfl, q_mt_1 1 rfl rfl, ⟨q_ncRX11.1, q_ncRX11.2.1, by decide +kernel⟩, by decide⟩
set_option maxRecDepth 100000 in
theorem mX11_apply : q_mt yX11_apply cX11_apply 7 (some .int) 3 := ⟨q_mt_6 224 rfl rfl, q_mt_1 1 rfl rfl, ⟨q_ncRX11.1, q_ncRX11.2.1, by decide +kernel⟩, by decide⟩
set_option maxRecDepth 100000 in
theorem mX11_law : q_mt yX11_law cX11_law 4 (some .int) 2 := ⟨q_mt_6 238 rfl rfl, q_mt_1 1 rfl rfl, ⟨q_ncRX11.1, q_ncRX11.2.1, by decide +kernel⟩, by decide⟩
set_option maxRecDepth 100000 in
theorem mX11_kept : q_mt yX11_kept cX11_kept 2 (some .int) 1 := ⟨q_mt_7 2 rfl rfl, q_mt_1 1 rfl rfl, ⟨q_ncRX11.1, q_ncRX11.2.1, by decide +kernel⟩, by decide⟩
set_option maxRecDepth 100000 in
theorem mX11_tried : q_mt yX11_tried cX11_tried 10 (some .int) 1 := ⟨q_mt_7 41 rfl rfl, q_mt_1 1 rfl rfl, ⟨q_ncRX11.1, q_ncRX11.2.1, by decide +kernel⟩, by decide⟩
set_option maxRecDepth 100000 in
theorem mX11_map : q_mt yX11_map cX11_map 8 (some .int) 7 := ⟨q_mt_7 45 rfl rfl, q_mt_1 1 rfl rfl, ⟨q_ncRX11.1, q_ncRX11.2.1, by decide +kernel⟩, by decide⟩
set_option maxRecDepth 100000 in
theorem mX11_unmap : q_mt yX11_unmap cX11_unmap 2 (some .int) 1 := ⟨q_mt_7 53 rfl rfl, q_mt_1 1 rfl rfl, ⟨q_ncRX11.1, q_ncRX11.2.1, by decide +kernel⟩, by decide⟩
set_option maxRecDepth 100000 in
theorem mX11_carry : q_mt yX11_carry cX11_carry 4 (some .int) 2 := ⟨q_mt_7 57 rfl rfl, q_mt_1 1 rfl rfl, ⟨q_ncRX11.1, q_ncRX11.2.1, by decide +kernel⟩, by decide⟩
set_option maxRecDepth 100000 in
theorem mX11_left : q_mt yX11_left cX11_left 2 (some .int) 1 := ⟨q_mt_7 71 rfl rfl, q_mt_1 1 rfl rfl, ⟨q_ncRX11.1, q_ncRX11.2.1, by decide +kernel⟩, by decide⟩
set_option maxRecDepth 100000 in
theorem mX11_hint : q_mt yX11_hint cX11_hint 6 (some .int) 3 := ⟨q_mt_7 75 rfl rfl, q_mt_1 1 rfl rfl, ⟨q_ncRX11.1, q_ncRX11.2.1, by decide +kernel⟩, by decide⟩
set_option maxRecDepth 100000 in
theorem mX11_forge : q_mt yX11_forge cX11_forge 4 (some .int) 3 := ⟨q_mt_7 83 rfl rfl, q_mt_1 1 rfl rfl, ⟨q_ncRX11.1, q_ncRX11.2.1, by decide +kernel⟩, by decide⟩
set_option maxRecDepth 100000 in
theorem mX11_set : q_mt yX11_set cX11_set 4 (some .int) 3 := ⟨q_mt_7 95 rfl rfl, q_mt_1 1 rfl rfl, ⟨q_ncRX11.1, q_ncRX11.2.1, by decide +kernel⟩, by decide⟩
set_option maxRecDepth 100000 in
theorem mX11_get : q_mt yX11_get cX11_get 3 (some .int) 2 := ⟨q_mt_7 103 rfl rfl, q_mt_1 1 rfl rfl, ⟨q_ncRX11.1, q_ncRX11.2.1, by decide +kernel⟩, by decide⟩
set_option maxRecDepth 100000 in
theorem mX11_copy : q_mt yX11_copy cX11_copy 8 (some .int) 5 := ⟨q_mt_7 107 rfl rfl, q_mt_1 1 rfl rfl, ⟨q_ncRX11.1, q_ncRX11.2.1, by decide +kernel⟩, by decide⟩
set_option maxRecDepth 100000 in
theorem mX11_take : q_mt yX11_take cX11_take 5 (some .int) 2 := ⟨q_mt_7 111 rfl rfl, q_mt_1 1 rfl rfl, ⟨q_ncRX11.1, q_ncRX11.2.1, by decide +kernel⟩, by decide⟩
set_option maxRecDepth 100000 in
theorem mX12_length : q_mt yX12_length cX12_length 5 (some .int) 3 := ⟨q_mt_9 22 rfl rfl, q_mt_1 14 rfl rfl, ⟨q_ncRX12.1, q_ncRX12.2.1, by decide +kernel⟩, by decide⟩
set_option maxRecDepth 100000 in
theorem mX12_form : q_mt yX12_form cX12_form 12 (some .int) 7 := ⟨q_mt_9 36 rfl rfl, q_mt_1 14 rfl rfl, ⟨q_ncRX12.1, q_ncRX12.2.1, by decide +kernel⟩, by decide⟩
set_option maxRecDepth 100000 in
theorem mX12_clear : q_mt yX12_clear cX12_clear 4 (some .int) 1 := ⟨q_mt_9 53 rfl rfl, q_mt_1 14 rfl rfl, ⟨q_ncRX12.1, q_ncRX12.2.1, by decide +kernel⟩, by decide⟩
set_option maxRecDepth 100000 in
theorem mX12_forms : q_mt yX12_forms cX12_forms 5 (some .int) 3 := ⟨q_mt_9 57 rfl rfl, q_mt_1 14 rfl rfl, ⟨q_ncRX12.1, q_ncRX12.2.1, by decide +kernel⟩, by decide⟩
set_option maxRecDepth 100000 in
theorem mX12_gap : q_mt yX12_gap cX12_gap 7 (some .int) 4 := ⟨q_mt_9 69 rfl rfl, q_mt_1 14 rfl rfl, ⟨q_ncRX12.1, q_ncRX12.2.1, by decide +kernel⟩, by decide⟩
set_option maxRecDepth 100000 in
theorem mX12_name : q_mt yX12_name cX12_name 7 (some .int) 4 := ⟨q_mt_9 74 rfl rfl, q_mt_1 14 rfl rfl, ⟨q_ncRX12.1, q_ncRX12.2.1, by decide +kernel⟩, by decide⟩
set_option maxRecDepth 100000 in
theorem mX12_scope : q_mt yX12_scope cX12_scope 5 (some .int) 3 := ⟨q_mt_9 83 rfl rfl, q_mt_1 14 rfl rfl, ⟨q_ncRX12.1, q_ncRX12.2.1, by decide +kernel⟩, by decide⟩
set_option maxRecDepth 100000 in
theorem mX12_rule : q_mt yX12_rule cX12_rule 8 (some .int) 4 := ⟨q_mt_9 87 rfl rfl, q_mt_1 14 rfl rfl, ⟨q_ncRX12.1, q_ncRX12.2.1, by decide +kernel⟩, by decide⟩
set_option maxRecDepth 100000 in
theorem mX12_unrule : q_mt yX12_unrule cX12_unrule 4 (some .int) 2 := ⟨q_mt_9 93 rfl rfl, q_mt_1 14 rfl rfl, ⟨q_ncRX12.1, q_ncRX12.2.1, by decide +kernel⟩, by decide⟩
set_option maxRecDepth 100000 in
theorem mX12_mean : q_mt yX12_mean cX12_mean 5 (some .int) 3 := ⟨q_mt_9 97 rfl rfl, q_mt_1 14 rfl rfl, ⟨q_ncRX12.1, q_ncRX12.2.1, by decide +kernel⟩, by decide⟩
set_option maxRecDepth 100000 in
theorem mX12_count : q_mt yX12_count cX12_count 7 (some .int) 1 := ⟨q_mt_9 102 rfl rfl, q_mt_1 14 rfl rfl, ⟨q_ncRX12.1, q_ncRX12.2.1, by decide +kernel⟩, by decide⟩
set_option maxRecDepth 100000 in
theorem mX12_cell : q_mt yX12_cell cX12_cell 3 (some .int) 2 := ⟨q_mt_9 110 rfl rfl, q_mt_1 14 rfl rfl, ⟨q_ncRX12.1, q_ncRX12.2.1, by decide +kernel⟩, by decide⟩
set_option maxRecDepth 100000 in
theorem mX12_put : q_mt yX12_put cX12_put 5 (some .int) 3 := ⟨q_mt_9 124 rfl rfl, q_mt_1 14 rfl rfl, ⟨q_ncRX12.1, q_ncRX12.2.1, by decide +kernel⟩, by decide⟩
set_option maxRecDepth 100000 in
theorem mX12_wipe : q_mt yX12_wipe cX12_wipe 3 (some .int) 1 := ⟨q_mt_9 128 rfl rfl, q_mt_1 14 rfl rfl, ⟨q_ncRX12.1, q_ncRX12.2.1, by decide +kernel⟩, by decide⟩
set_option maxRecDepth 100000 in
theorem mX12_at : q_mt yX12_at cX12_at 3 (some .int) 2 := ⟨q_mt_9 132 rfl rfl, q_mt_1 14 rfl rfl, ⟨q_ncRX12.1, q_ncRX12.2.1, by decide +kernel⟩, by decide⟩
set_option maxRecDepth 100000 in
theorem mX12_readings : q_mt yX12_readings cX12_readings 3 (some .int) 2 := ⟨q_mt_9 136 rfl rfl, q_mt_1 14 rfl rfl, ⟨q_ncRX12.1, q_ncRX12.2.1, by decide +kernel⟩, by decide⟩
set_option maxRecDepth 100000 in
theorem mX12_read : q_mt yX12_read cX12_read 4 (some .int) 3 := ⟨q_mt_9 162 rfl rfl, q_mt_1 14 rfl rfl, ⟨q_ncRX12.1, q_ncRX12.2.1, by decide +kernel⟩, by decide⟩
set_option maxRecDepth 100000 in
theorem mX12_idle : q_mt yX12_idle cX12_idle 9 (some .int) 1 := ⟨q_mt_9 206 rfl rfl, q_mt_1 14 rfl rfl, ⟨q_ncRX12.1, q_ncRX12.2.1, by decide +kernel⟩, by decide⟩
set_option maxRecDepth 100000 in
theorem mX12_rows : q_mt yX12_rows cX12_rows 4 (some .int) 3 := ⟨q_mt_9 218 rfl rfl, q_mt_1 14 rfl rfl, ⟨q_ncRX12.1, q_ncRX12.2.1, by decide +kernel⟩, by decide⟩
set_option maxRecDepth 100000 in
theorem mX12_two : q_mt yX12_two cX12_two 8 (some .int) 3 := ⟨q_mt_10 3 rfl rfl, q_mt_1 14 rfl rfl, ⟨q_ncRX12.1, q_ncRX12.2.1, by decide +kernel⟩, by decide⟩
set_option maxRecDepth 100000 in
theorem mX12_price : q_mt yX12_price cX12_price 3 (some .int) 2 := ⟨q_mt_10 7 rfl rfl, q_mt_1 14 rfl rfl, ⟨q_ncRX12.1, q_ncRX12.2.1, by decide +kernel⟩, by decide⟩
set_option maxRecDepth 100000 in
theorem mX12_mend : q_mt yX12_mend cX12_mend 13 (some .int) 3 := ⟨q_mt_10 28 rfl rfl, q_mt_1 14 rfl rfl, ⟨q_ncRX12.1, q_ncRX12.2.1, by decide +kernel⟩, by decide⟩
set_option maxRecDepth 100000 in
theorem mX12_size : q_mt yX12_size cX12_size 3 (some .int) 2 := ⟨q_mt_10 40 rfl rfl, q_mt_1 14 rfl rfl, ⟨q_ncRX12.1, q_ncRX12.2.1, by decide +kernel⟩, by decide⟩
set_option maxRecDepth 100000 in
theorem mX12_node : q_mt yX12_node cX12_node 4 (some .int) 3 := ⟨q_mt_10 64 rfl rfl, q_mt_1 14 rfl rfl, ⟨q_ncRX12.1, q_ncRX12.2.1, by decide +kernel⟩, by decide⟩
set_option maxRecDepth 100000 in
theorem mX12_slot : q_mt yX12_slot cX12_slot 4 (some .int) 3 := ⟨q_mt_10 76 rfl rfl, q_mt_1 14 rfl rfl, ⟨q_ncRX12.1, q_ncRX12.2.1, by decide +kernel⟩, by decide⟩
set_option maxRecDepth 100000 in
theorem mX12_leaf : q_mt yX12_leaf cX12_leaf 4 (some .int) 3 := ⟨q_mt_10 80 rfl rfl, q_mt_1 14 rfl rfl, ⟨q_ncRX12.1, q_ncRX12.2.1, by decide +kernel⟩, by decide⟩
set_option maxRecDepth 100000 in
theorem mX12_spell : q_mt yX12_spell cX12_spell 3 (some .int) 2 := ⟨q_mt_10 88 rfl rfl, q_mt_1 14 rfl rfl, ⟨q_ncRX12.1, q_ncRX12.2.1, by decide +kernel⟩, by decide⟩
set_option maxRecDepth 100000 in
theorem mX12_write : q_mt yX12_write cX12_write 4 (some .int) 2 := ⟨q_mt_10 92 rfl rfl, q_mt_1 14 rfl rfl, ⟨q_ncRX12.1, q_ncRX12.2.1, by decide +kernel⟩, by decide⟩
set_option maxRecDepth 100000 in
theorem mX12_keep : q_mt yX12_keep cX12_keep 3 (some .int) 2 := ⟨q_mt_10 96 rfl rfl, q_mt_1 14 rfl rfl, ⟨q_ncRX12.1, q_ncRX12.2.1, by decide +kernel⟩, by decide⟩
set_option maxRecDepth 100000 in
theorem mX12_strike : q_mt yX12_strike cX12_strike 2 (some .int) 1 := ⟨q_mt_10 100 rfl rfl, q_mt_1 14 rfl rfl, ⟨q_ncRX12.1, q_ncRX12.2.1, by decide +kernel⟩, by decide⟩
set_option maxRecDepth 100000 in
theorem mX12_like : q_mt yX12_like cX12_like 5 (some .int) 4 := ⟨q_mt_10 104 rfl rfl, q_mt_1 14 rfl rfl, ⟨q_ncRX12.1, q_ncRX12.2.1, by decide +kernel⟩, by decide⟩
set_option maxRecDepth 100000 in
theorem mX12_pin : q_mt yX12_pin cX12_pin 5 (some .int) 3 := ⟨q_mt_10 112 rfl rfl, q_mt_1 14 rfl rfl, ⟨q_ncRX12.1, q_ncRX12.2.1, by decide +kernel⟩, by decide⟩
set_option maxRecDepth 100000 in
theorem mX12_lay : q_mt yX12_lay cX12_lay 5 (some .int) 3 := ⟨q_mt_10 116 rfl rfl, q_mt_1 14 rfl rfl, ⟨q_ncRX12.1, q_ncRX12.2.1, by decide +kernel⟩, by decide⟩
set_option maxRecDepth 100000 in
theorem mX12_laid : q_mt yX12_laid cX12_laid 6 (some .int) 4 := ⟨q_mt_10 152 rfl rfl, q_mt_1 14 rfl rfl, ⟨q_ncRX12.1, q_ncRX12.2.1, by decide +kernel⟩, by decide⟩
set_option maxRecDepth 100000 in
theorem mX12_distance : q_mt yX12_distance cX12_distance 5 (some .int) 2 := ⟨q_mt_10 156 rfl rfl, q_mt_1 14 rfl rfl, ⟨q_ncRX12.1, q_ncRX12.2.1, by decide +kernel⟩, by decide⟩
set_option maxRecDepth 100000 in
theorem mX12_move : q_mt yX12_move cX12_move 10 (some .int) 3 := ⟨q_mt_10 176 rfl rfl, q_mt_1 14 rfl rfl, ⟨q_ncRX12.1, q_ncRX12.2.1, by decide +kernel⟩, by decide⟩
set_option maxRecDepth 100000 in
theorem mX12_join : q_mt yX12_join cX12_join 16 (some .int) 4 := ⟨q_mt_10 180 rfl rfl, q_mt_1 14 rfl rfl, ⟨q_ncRX12.1, q_ncRX12.2.1, by decide +kernel⟩, by decide⟩
set_option maxRecDepth 100000 in
theorem mX12_bound : q_mt yX12_bound cX12_bound 3 (some .int) 2 := ⟨q_mt_10 212 rfl rfl, q_mt_1 14 rfl rfl, ⟨q_ncRX12.1, q_ncRX12.2.1, by decide +kernel⟩, by decide⟩
set_option maxRecDepth 100000 in
theorem mX12_uses : q_mt yX12_uses cX12_uses 5 (some .int) 2 := ⟨q_mt_10 232 rfl rfl, q_mt_1 14 rfl rfl, ⟨q_ncRX12.1, q_ncRX12.2.1, by decide +kernel⟩, by decide⟩
set_option maxRecDepth 100000 in
theorem mX12_rename : q_mt yX12_rename cX12_rename 7 (some .int) 3 := ⟨q_mt_10 236 rfl rfl, q_mt_1 14 rfl rfl, ⟨q_ncRX12.1, q_ncRX12.2.1, by decide +kernel⟩, by decide⟩
set_option maxRecDepth 100000 in
theorem mX12_kind : q_mt yX12_kind cX12_kind 8 (some .int) 3 := ⟨q_mt_11 5 rfl rfl, q_mt_1 14 rfl rfl, ⟨q_ncRX12.1, q_ncRX12.2.1, by decide +kernel⟩, by decide⟩
set_option maxRecDepth 100000 in
theorem mX12_blamed : q_mt yX12_blamed cX12_blamed 4 (some .int) 2 := ⟨q_mt_11 29 rfl rfl, q_mt_1 14 rfl rfl, ⟨q_ncRX12.1, q_ncRX12.2.1, by decide +kernel⟩, by decide⟩
set_option maxRecDepth 100000 in
theorem mX12_world : q_mt yX12_world cX12_world 5 (some .int) 3 := ⟨q_mt_11 41 rfl rfl, q_mt_1 14 rfl rfl, ⟨q_ncRX12.1, q_ncRX12.2.1, by decide +kernel⟩, by decide⟩
set_option maxRecDepth 100000 in
theorem mX12_run : q_mt yX12_run cX12_run 4 (some .int) 3 := ⟨q_mt_11 45 rfl rfl, q_mt_1 14 rfl rfl, ⟨q_ncRX12.1, q_ncRX12.2.1, by decide +kernel⟩, by decide⟩
set_option maxRecDepth 100000 in
theorem mX12_value : q_mt yX12_value cX12_value 1 (some .int) 0 := ⟨q_mt_11 73 rfl rfl, q_mt_1 14 rfl rfl, ⟨q_ncRX12.1, q_ncRX12.2.1, by decide +kernel⟩, by decide⟩
set_option maxRecDepth 100000 in
theorem mX12_show : q_mt yX12_show cX12_show 3 (some .int) 2 := ⟨q_mt_11 77 rfl rfl, q_mt_1 14 rfl rfl, ⟨q_ncRX12.1, q_ncRX12.2.1, by decide +kernel⟩, by decide⟩
set_option maxRecDepth 100000 in
theorem mX12_hide : q_mt yX12_hide cX12_hide 2 (some .int) 0 := ⟨q_mt_11 81 rfl rfl, q_mt_1 14 rfl rfl, ⟨q_ncRX12.1, q_ncRX12.2.1, by decide +kernel⟩, by decide⟩
set_option maxRecDepth 100000 in
theorem mX12_find : q_mt yX12_find cX12_find 3 (some .int) 1 := ⟨q_mt_11 85 rfl rfl, q_mt_1 14 rfl rfl, ⟨q_ncRX12.1, q_ncRX12.2.1, by decide +kernel⟩, by decide⟩
set_option maxRecDepth 100000 in
theorem mX12_turned : q_mt yX12_turned cX12_turned 4 (some .int) 3 := ⟨q_mt_11 109 rfl rfl, q_mt_1 14 rfl rfl, ⟨q_ncRX12.1, q_ncRX12.2.1, by decide +kernel⟩, by decide⟩
set_option maxRecDepth 100000 in
theorem mX12_fits : q_mt yX12_fits cX12_fits 5 (some .int) 2 := ⟨q_mt_11 117 rfl rfl, q_mt_1 14 rfl rfl, ⟨q_ncRX12.1, q_ncRX12.2.1, by decide +kernel⟩, by decide⟩
set_option maxRecDepth 100000 in
theorem mX12_apply : q_mt yX12_apply cX12_apply 6 (some .int) 3 := ⟨q_mt_11 121 rfl rfl, q_mt_1 14 rfl rfl, ⟨q_ncRX12.1, q_ncRX12.2.1, by decide +kernel⟩, by decide⟩
set_option maxRecDepth 100000 in
theorem mX12_law : q_mt yX12_law cX12_law 4 (some .int) 2 := ⟨q_mt_11 129 rfl rfl, q_mt_1 14 rfl rfl, ⟨q_ncRX12.1, q_ncRX12.2.1, by decide +kernel⟩, by decide⟩
set_option maxRecDepth 100000 in
theorem mX12_kept : q_mt yX12_kept cX12_kept 11 (some .int) 1 := ⟨q_mt_11 133 rfl rfl, q_mt_1 14 rfl rfl, ⟨q_ncRX12.1, q_ncRX12.2.1, by decide +kernel⟩, by decide⟩
set_option maxRecDepth 100000 in
theorem mX12_tried : q_mt yX12_tried cX12_tried 5 (some .int) 1 := ⟨q_mt_11 145 rfl rfl, q_mt_1 14 rfl rfl, ⟨q_ncRX12.1, q_ncRX12.2.1, by decide +kernel⟩, by decide⟩
set_option maxRecDepth 100000 in
theorem mX12_map : q_mt yX12_map cX12_map 12 (some .int) 7 := ⟨q_mt_11 149 rfl rfl, q_mt_1 14 rfl rfl, ⟨q_ncRX12.1, q_ncRX12.2.1, by decide +kernel⟩, by decide⟩
set_option maxRecDepth 100000 in
theorem mX12_unmap : q_mt yX12_unmap cX12_unmap 3 (some .int) 1 := ⟨q_mt_11 156 rfl rfl, q_mt_1 14 rfl rfl, ⟨q_ncRX12.1, q_ncRX12.2.1, by decide +kernel⟩, by decide⟩
set_option maxRecDepth 100000 in
theorem mX12_left : q_mt yX12_left cX12_left 2 (some .int) 1 := ⟨q_mt_11 160 rfl rfl, q_mt_1 14 rfl rfl, ⟨q_ncRX12.1, q_ncRX12.2.1, by decide +kernel⟩, by decide⟩
set_option maxRecDepth 100000 in
theorem mX12_carry : q_mt yX12_carry cX12_carry 9 (some .int) 2 := ⟨q_mt_11 168 rfl rfl, q_mt_1 14 rfl rfl, ⟨q_ncRX12.1, q_ncRX12.2.1, by decide +kernel⟩, by decide⟩
set_option maxRecDepth 100000 in
theorem mX12_hint : q_mt yX12_hint cX12_hint 4 (some .int) 3 := ⟨q_mt_11 176 rfl rfl, q_mt_1 14 rfl rfl, ⟨q_ncRX12.1, q_ncRX12.2.1, by decide +kernel⟩, by decide⟩
set_option maxRecDepth 100000 in
theorem mX12_forge : q_mt yX12_forge cX12_forge 5 (some .int) 3 := ⟨q_mt_11 184 rfl rfl, q_mt_1 14 rfl rfl, ⟨q_ncRX12.1, q_ncRX12.2.1, by decide +kernel⟩, by decide⟩
set_option maxRecDepth 100000 in
theorem mX12_set : q_mt yX12_set cX12_set 4 (some .int) 3 := ⟨q_mt_11 191 rfl rfl, q_mt_1 14 rfl rfl, ⟨q_ncRX12.1, q_ncRX12.2.1, by decide +kernel⟩, by decide⟩
set_option maxRecDepth 100000 in
theorem mX12_get : q_mt yX12_get cX12_get 3 (some .int) 2 := ⟨q_mt_11 200 rfl rfl, q_mt_1 14 rfl rfl, ⟨q_ncRX12.1, q_ncRX12.2.1, by decide +kernel⟩, by decide⟩
set_option maxRecDepth 100000 in
theorem mX12_copy : q_mt yX12_copy cX12_copy 7 (some .int) 5 := ⟨q_mt_11 204 rfl rfl, q_mt_1 14 rfl rfl, ⟨q_ncRX12.1, q_ncRX12.2.1, by decide +kernel⟩, by decide⟩
set_option maxRecDepth 100000 in
theorem mX12_take : q_mt yX12_take cX12_take 4 (some .int) 2 := ⟨q_mt_11 208 rfl rfl, q_mt_1 14 rfl rfl, ⟨q_ncRX12.1, q_ncRX12.2.1, by decide +kernel⟩, by decide⟩
end
