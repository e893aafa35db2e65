set_option maxRecDepth 20000 in
theorem zt_1 : ∀ w ∈ ([.codeWith yL_put cL_put 6 (some .int) [(0, 13, 16, 19), (0, 13, 20, 21)]] : List Cond), w ∈ lw_tbl := by decide +kernel
set_option maxRecDepth 20000 in
theorem zt_2 : ∀ w ∈ (wsL_put_r1 : List Cond), w ∈ lw_tbl := by decide +kernel
set_option maxRecDepth 20000 in
theorem zt_3 : ∀ w ∈ (wsL_put_r2 : List Cond), w ∈ lw_tbl := by decide +kernel
set_option maxRecDepth 20000 in
theorem zt_4 : ∀ w ∈ (wsL_put_r3 : List Cond), w ∈ lw_tbl := by decide +kernel
set_option maxRecDepth 20000 in
theorem zt_5 : ∀ w ∈ (wsX40 : List Cond), w ∈ lw_tbl := by decide +kernel
set_option maxRecDepth 20000 in
theorem zt_6 : ∀ w ∈ (wsX30 : List Cond), w ∈ lw_tbl := by decide +kernel
set_option maxRecDepth 20000 in
theorem zt_7 : ∀ w ∈ (wsX10 : List Cond), w ∈ lw_tbl := by decide +kernel
set_option maxRecDepth 20000 in
theorem zt_8 : ∀ w ∈ (wsX20 : List Cond), w ∈ lw_tbl := by decide +kernel
set_option maxRecDepth 20000 in
theorem zt_9 : ∀ w ∈ ((vx_atS RX3 227 "java/lang/IndexOutOfBoundsException" ["java/lang/RuntimeException", "java/lang/Exception"]).filter goodWord : List Cond), w ∈ lw_tbl := by decide +kernel
set_option maxRecDepth 20000 in
theorem zt_10 : ∀ w ∈ ((vx_atS RX3 108 "java/lang/IllegalArgumentException" ["java/lang/RuntimeException", "java/lang/Exception"]).filter goodWord : List Cond), w ∈ lw_tbl := by decide +kernel
set_option maxRecDepth 20000 in
theorem zt_11 : ∀ w ∈ ([] : List Cond), w ∈ lw_tbl := by decide +kernel
theorem zi_wsL_put : ∀ w ∈ wsL_put, w ∈ lw_tbl := (List.forall_mem_cons.mpr ⟨zt_1 _ List.mem_cons_self, (List.forall_mem_append.mpr ⟨(List.forall_mem_append.mpr ⟨(List.forall_mem_append.mpr ⟨(List.forall_mem_append.mpr ⟨(List.forall_mem_append.mpr ⟨(List.forall_mem_append.mpr ⟨(List.forall_mem_append.mpr ⟨(List.forall_mem_append.mpr ⟨zt_2, (List.forall_mem_append.mpr ⟨zt_3, zt_4⟩)⟩), zt_5⟩), zt_6⟩), zt_7⟩), zt_8⟩), zt_9⟩), zt_10⟩), zt_11⟩)⟩)
set_option maxRecDepth 20000 in
theorem zt_12 : ∀ w ∈ ([.code yX5_put cX5_put 4 (some .int)] : List Cond), w ∈ lw_tbl := by decide +kernel
set_option maxRecDepth 20000 in
theorem zt_13 : ∀ w ∈ (wsX5_put_r1 : List Cond), w ∈ lw_tbl := by decide +kernel
set_option maxRecDepth 20000 in
theorem zt_14 : ∀ w ∈ (wsX5_put_r2 : List Cond), w ∈ lw_tbl := by decide +kernel
set_option maxRecDepth 20000 in
theorem zt_15 : ∀ w ∈ (wsX50 : List Cond), w ∈ lw_tbl := by decide +kernel
theorem zi_wsX5_put : ∀ w ∈ wsX5_put, w ∈ lw_tbl := (List.forall_mem_cons.mpr ⟨zt_12 _ List.mem_cons_self, (List.forall_mem_append.mpr ⟨(List.forall_mem_append.mpr ⟨(List.forall_mem_append.mpr ⟨zt_13, zt_14⟩), zt_15⟩), zt_11⟩)⟩)
set_option maxRecDepth 20000 in
theorem zt_16 : ∀ w ∈ ([.codeWith yL_width cL_width 4 (some .int) [(0, 10, 13, 19)]] : List Cond), w ∈ lw_tbl := by decide +kernel
set_option maxRecDepth 20000 in
theorem zt_17 : ∀ w ∈ (wsL_width_r1 : List Cond), w ∈ lw_tbl := by decide +kernel
set_option maxRecDepth 20000 in
theorem zt_18 : ∀ w ∈ (wsL_width_r2 : List Cond), w ∈ lw_tbl := by decide +kernel
theorem zi_wsL_width : ∀ w ∈ wsL_width, w ∈ lw_tbl := (List.forall_mem_cons.mpr ⟨zt_16 _ List.mem_cons_self, (List.forall_mem_append.mpr ⟨(List.forall_mem_append.mpr ⟨(List.forall_mem_append.mpr ⟨(List.forall_mem_append.mpr ⟨(List.forall_mem_append.mpr ⟨(List.forall_mem_append.mpr ⟨zt_17, zt_18⟩), zt_5⟩), zt_6⟩), zt_7⟩), zt_9⟩), zt_11⟩)⟩)
set_option maxRecDepth 20000 in
theorem zt_19 : ∀ w ∈ ([.code yX5_width cX5_width 2 (some .int)] : List Cond), w ∈ lw_tbl := by decide +kernel
set_option maxRecDepth 20000 in
theorem zt_20 : ∀ w ∈ (wsX5_width_r1 : List Cond), w ∈ lw_tbl := by decide +kernel
set_option maxRecDepth 20000 in
theorem zt_21 : ∀ w ∈ (wsX5_width_r2 : List Cond), w ∈ lw_tbl := by decide +kernel
set_option maxRecDepth 20000 in
theorem zt_22 : ∀ w ∈ (wsX5_width_r3 : List Cond), w ∈ lw_tbl := by decide +kernel
set_option maxRecDepth 20000 in
theorem zt_23 : ∀ w ∈ (wsX5_width_r4 : List Cond), w ∈ lw_tbl := by decide +kernel
set_option maxRecDepth 20000 in
theorem zt_24 : ∀ w ∈ (wsX5_width_r5 : List Cond), w ∈ lw_tbl := by decide +kernel
set_option maxRecDepth 20000 in
theorem zt_25 : ∀ w ∈ (wsX5_width_r6 : List Cond), w ∈ lw_tbl := by decide +kernel
set_option maxRecDepth 20000 in
theorem zt_26 : ∀ w ∈ (wsX5_width_r7 : List Cond), w ∈ lw_tbl := by decide +kernel
set_option maxRecDepth 20000 in
theorem zt_27 : ∀ w ∈ (wsX5_width_r8 : List Cond), w ∈ lw_tbl := by decide +kernel
set_option maxRecDepth 20000 in
theorem zt_28 : ∀ w ∈ (wsX5_width_r9 : List Cond), w ∈ lw_tbl := by decide +kernel
set_option maxRecDepth 20000 in
theorem zt_29 : ∀ w ∈ (wsX5_width_r10 : List Cond), w ∈ lw_tbl := by decide +kernel
set_option maxRecDepth 20000 in
theorem zt_30 : ∀ w ∈ (wsX5_width_r11 : List Cond), w ∈ lw_tbl := by decide +kernel
set_option maxRecDepth 20000 in
theorem zt_31 : ∀ w ∈ (wsJ40 : List Cond), w ∈ lw_tbl := by decide +kernel
set_option maxRecDepth 20000 in
theorem zt_32 : ∀ w ∈ (wsJ00 : List Cond), w ∈ lw_tbl := by decide +kernel
theorem zi_wsX5_width : ∀ w ∈ wsX5_width, w ∈ lw_tbl := (List.forall_mem_cons.mpr ⟨zt_19 _ List.mem_cons_self, (List.forall_mem_append.mpr ⟨(List.forall_mem_append.mpr ⟨(List.forall_mem_append.mpr ⟨(List.forall_mem_append.mpr ⟨(List.forall_mem_append.mpr ⟨zt_20, (List.forall_mem_append.mpr ⟨zt_21, (List.forall_mem_append.mpr ⟨zt_22, (List.forall_mem_append.mpr ⟨zt_23, (List.forall_mem_append.mpr ⟨zt_24, (List.forall_mem_append.mpr ⟨zt_25, (List.forall_mem_append.mpr ⟨zt_26, (List.forall_mem_append.mpr ⟨zt_27, (List.forall_mem_append.mpr ⟨zt_28, (List.forall_mem_append.mpr ⟨zt_29, zt_30⟩)⟩)⟩)⟩)⟩)⟩)⟩)⟩)⟩)⟩), zt_15⟩), zt_31⟩), zt_32⟩), zt_11⟩)⟩)
set_option maxRecDepth 20000 in
theorem zt_33 : ∀ w ∈ ([.code yX3_init cX3_init 2 none] : List Cond), w ∈ lw_tbl := by decide +kernel
set_option maxRecDepth 20000 in
theorem zt_34 : ∀ w ∈ (wsX3_init_r1 : List Cond), w ∈ lw_tbl := by decide +kernel
set_option maxRecDepth 20000 in
theorem zt_35 : ∀ w ∈ (wsX3_init_r2 : List Cond), w ∈ lw_tbl := by decide +kernel
set_option maxRecDepth 20000 in
theorem zt_36 : ∀ w ∈ (wsX3_init_r3 : List Cond), w ∈ lw_tbl := by decide +kernel
set_option maxRecDepth 20000 in
theorem zt_37 : ∀ w ∈ (wsX00 : List Cond), w ∈ lw_tbl := by decide +kernel
theorem zi_wsX3_init : ∀ w ∈ wsX3_init, w ∈ lw_tbl := (List.forall_mem_cons.mpr ⟨zt_33 _ List.mem_cons_self, (List.forall_mem_append.mpr ⟨(List.forall_mem_append.mpr ⟨(List.forall_mem_append.mpr ⟨(List.forall_mem_append.mpr ⟨(List.forall_mem_append.mpr ⟨(List.forall_mem_append.mpr ⟨(List.forall_mem_append.mpr ⟨zt_34, (List.forall_mem_append.mpr ⟨zt_35, zt_36⟩)⟩), zt_6⟩), zt_7⟩), zt_37⟩), zt_8⟩), zt_31⟩), zt_11⟩)⟩)
set_option maxRecDepth 20000 in
theorem zt_38 : ∀ w ∈ ([.code yX5_init cX5_init 2 none] : List Cond), w ∈ lw_tbl := by decide +kernel
set_option maxRecDepth 20000 in
theorem zt_39 : ∀ w ∈ ([.methodLink RX5 1 objectInit, .instanceMethod objectInit, .code objectInit ⟨#[0xb1]⟩ 1 none, .classLink RX5 9 "[[I", .arrayClass .int, .fieldLink RX5 11 "HashladderModel" "rows" "[[I", .fieldLink RX5 14 "HashladderModel" "done" "[I", .fieldLink RX5 18 "HashladderModel" "steps" "[I", .fieldLink RX5 21 "HashladderModel" "sums" "[I", .fieldLink RX5 24 "HashladderModel" "views" "[I", .methodLink RX5 27 yX5_empty, .instanceMethod yX5_empty, .selects RX5 yX5_empty yX5_empty, .initialized RX5, .code yX5_empty cX5_empty 3 none] : List Cond), w ∈ lw_tbl := by decide +kernel
theorem zi_wsX5_init : ∀ w ∈ wsX5_init, w ∈ lw_tbl := (List.forall_mem_cons.mpr ⟨zt_38 _ List.mem_cons_self, (List.forall_mem_append.mpr ⟨(List.forall_mem_append.mpr ⟨zt_39, zt_15⟩), zt_11⟩)⟩)
set_option maxRecDepth 20000 in
theorem zt_40 : ∀ w ∈ ([.code yX4_init cX4_init 1 none] : List Cond), w ∈ lw_tbl := by decide +kernel
set_option maxRecDepth 20000 in
theorem zt_41 : ∀ w ∈ ([.methodLink RX4 1 objectInit, .instanceMethod objectInit, .code objectInit ⟨#[0xb1]⟩ 1 none] : List Cond), w ∈ lw_tbl := by decide +kernel
theorem zi_wsX4_init : ∀ w ∈ wsX4_init, w ∈ lw_tbl := (List.forall_mem_cons.mpr ⟨zt_40 _ List.mem_cons_self, zt_41⟩)
set_option maxRecDepth 20000 in
theorem zt_42 : ∀ w ∈ (zz_w1 : List Cond), w ∈ lw_tbl := by decide +kernel
set_option maxRecDepth 20000 in
theorem zt_43 : ∀ w ∈ (u_ws RJx00060 TJx00060 6 : List Cond), w ∈ lw_tbl := by decide +kernel
set_option maxRecDepth 20000 in
theorem zt_44 : ∀ w ∈ (u_ws RJx7c733 TJx7c733 6 : List Cond), w ∈ lw_tbl := by decide +kernel
theorem zz_memS {own : String} {i : Nat} {y : MethodName} {ws T : List Cond} (h : ∀ w ∈ ws, w ∈ T) (h0 : ∀ w ∈ va_wsS own i y [], w ∈ T) : ∀ w ∈ va_wsS own i y ws, w ∈ T := by
  intro w hw
  unfold va_wsS at hw h0
  rcases List.mem_append.mp hw with q | q
  · exact h0 w (List.mem_append_left _ q)
  · exact h w q
theorem zz_memV {own : String} {i : Nat} {C : String} {y : MethodName} {ws T : List Cond} (h : ∀ w ∈ ws, w ∈ T) (h0 : ∀ w ∈ wsV own i C y [], w ∈ T) : ∀ w ∈ wsV own i C y ws, w ∈ T := by
  intro w hw
  unfold wsV at hw h0
  rcases List.mem_append.mp hw with q | q
  · exact h0 w (List.mem_append_left _ q)
  · exact h w q
def zz_ws : List Cond := zz_w1 ++ (va_wsS RL 184 yL_put wsL_put ++ (wsV RL 189 RX5 yX5_put wsX5_put ++ (va_wsS RL 289 yL_width wsL_width ++ (wsV RL 291 RX5 yX5_width wsX5_width ++ (wsX3_init ++ (wsX5_init ++ (wsX4_init ++ (wsJ00 ++ (wsJ40 ++ (wsX00 ++ (wsX10 ++ (wsX20 ++ (wsX30 ++ (wsX40 ++ (wsX50)))))))))))))))
set_option maxRecDepth 20000 in
theorem zt_45 : ∀ w ∈ (va_wsS RL 184 yL_put [] : List Cond), w ∈ lw_tbl := by decide +kernel
set_option maxRecDepth 20000 in
theorem zt_46 : ∀ w ∈ (wsV RL 189 RX5 yX5_put [] : List Cond), w ∈ lw_tbl := by decide +kernel
set_option maxRecDepth 20000 in
theorem zt_47 : ∀ w ∈ (va_wsS RL 289 yL_width [] : List Cond), w ∈ lw_tbl := by decide +kernel
set_option maxRecDepth 20000 in
theorem zt_48 : ∀ w ∈ (wsV RL 291 RX5 yX5_width [] : List Cond), w ∈ lw_tbl := by decide +kernel
theorem zz_ws_in : ∀ w ∈ zz_ws, w ∈ lw_tbl := (List.forall_mem_append.mpr ⟨zt_42, (List.forall_mem_append.mpr ⟨(zz_memS zi_wsL_put zt_45), (List.forall_mem_append.mpr ⟨(zz_memV zi_wsX5_put zt_46), (List.forall_mem_append.mpr ⟨(zz_memS zi_wsL_width zt_47), (List.forall_mem_append.mpr ⟨(zz_memV zi_wsX5_width zt_48), (List.forall_mem_append.mpr ⟨zi_wsX3_init, (List.forall_mem_append.mpr ⟨zi_wsX5_init, (List.forall_mem_append.mpr ⟨zi_wsX4_init, (List.forall_mem_append.mpr ⟨zt_32, (List.forall_mem_append.mpr ⟨zt_31, (List.forall_mem_append.mpr ⟨zt_37, (List.forall_mem_append.mpr ⟨zt_7, (List.forall_mem_append.mpr ⟨zt_8, (List.forall_mem_append.mpr ⟨zt_6, (List.forall_mem_append.mpr ⟨zt_5, zt_15⟩)⟩)⟩)⟩)⟩)⟩)⟩)⟩)⟩)⟩)⟩)⟩)⟩)⟩)⟩)
theorem gL_law_L_put : GoodIn zz_ws (va_wsS RL 184 yL_put wsL_put) := goodIn_sub (fun _ h => List.mem_append_right _ (List.mem_append_left _ h)) (by decide +kernel)
theorem gL_law_X5_put : GoodIn zz_ws (wsV RL 189 RX5 yX5_put wsX5_put) := goodIn_sub (fun _ h => List.mem_append_right _ (List.mem_append_right _ (List.mem_append_left _ h))) (by decide +kernel)
theorem gL_law_L_width : GoodIn zz_ws (va_wsS RL 289 yL_width wsL_width) := goodIn_sub (fun _ h => List.mem_append_right _ (List.mem_append_right _ (List.mem_append_right _ (List.mem_append_left _ h)))) (by decide +kernel)
theorem gL_law_X5_width : GoodIn zz_ws (wsV RL 291 RX5 yX5_width wsX5_width) := goodIn_sub (fun _ h => List.mem_append_right _ (List.mem_append_right _ (List.mem_append_right _ (List.mem_append_right _ (List.mem_append_left _ h))))) (by decide +kernel)
theorem gL_law_X3_init : GoodIn zz_ws (wsX3_init) := goodIn_sub (fun _ h => List.mem_append_right _ (List.mem_append_right _ (List.mem_append_right _ (List.mem_append_right _ (List.mem_append_right _ (List.mem_append_left _ h)))))) (by decide +kernel)
theorem gL_law_X5_init : GoodIn zz_ws (wsX5_init) := goodIn_sub (fun _ h => List.mem_append_right _ (List.mem_append_right _ (List.mem_append_right _ (List.mem_append_right _ (List.mem_append_right _ (List.mem_append_right _ (List.mem_append_left _ h))))))) (by decide +kernel)
theorem gL_law_X4_init_n183 : GoodIn zz_ws (wsX4_init) := goodIn_sub (fun _ h => List.mem_append_right _ (List.mem_append_right _ (List.mem_append_right _ (List.mem_append_right _ (List.mem_append_right _ (List.mem_append_right _ (List.mem_append_right _ (List.mem_append_left _ h)))))))) (by decide +kernel)
theorem zz_inl_wsJ00 : ∀ w ∈ wsJ00, w ∈ zz_ws := fun _ h => List.mem_append_right _ (List.mem_append_right _ (List.mem_append_right _ (List.mem_append_right _ (List.mem_append_right _ (List.mem_append_right _ (List.mem_append_right _ (List.mem_append_right _ (List.mem_append_left _ h))))))))
theorem zz_inl_wsJ40 : ∀ w ∈ wsJ40, w ∈ zz_ws := fun _ h => List.mem_append_right _ (List.mem_append_right _ (List.mem_append_right _ (List.mem_append_right _ (List.mem_append_right _ (List.mem_append_right _ (List.mem_append_right _ (List.mem_append_right _ (List.mem_append_right _ (List.mem_append_left _ h)))))))))
theorem zz_inl_wsX00 : ∀ w ∈ wsX00, w ∈ zz_ws := fun _ h => List.mem_append_right _ (List.mem_append_right _ (List.mem_append_right _ (List.mem_append_right _ (List.mem_append_right _ (List.mem_append_right _ (List.mem_append_right _ (List.mem_append_right _ (List.mem_append_right _ (List.mem_append_right _ (List.mem_append_left _ h))))))))))
theorem zz_inl_wsX10 : ∀ w ∈ wsX10, w ∈ zz_ws := fun _ h => List.mem_append_right _ (List.mem_append_right _ (List.mem_append_right _ (List.mem_append_right _ (List.mem_append_right _ (List.mem_append_right _ (List.mem_append_right _ (List.mem_append_right _ (List.mem_append_right _ (List.mem_append_right _ (List.mem_append_right _ (List.mem_append_left _ h)))))))))))
theorem zz_inl_wsX20 : ∀ w ∈ wsX20, w ∈ zz_ws := fun _ h => List.mem_append_right _ (List.mem_append_right _ (List.mem_append_right _ (List.mem_append_right _ (List.mem_append_right _ (List.mem_append_right _ (List.mem_append_right _ (List.mem_append_right _ (List.mem_append_right _ (List.mem_append_right _ (List.mem_append_right _ (List.mem_append_right _ (List.mem_append_left _ h))))))))))))
theorem zz_inl_wsX30 : ∀ w ∈ wsX30, w ∈ zz_ws := fun _ h => List.mem_append_right _ (List.mem_append_right _ (List.mem_append_right _ (List.mem_append_right _ (List.mem_append_right _ (List.mem_append_right _ (List.mem_append_right _ (List.mem_append_right _ (List.mem_append_right _ (List.mem_append_right _ (List.mem_append_right _ (List.mem_append_right _ (List.mem_append_right _ (List.mem_append_left _ h)))))))))))))
theorem zz_inl_wsX40 : ∀ w ∈ wsX40, w ∈ zz_ws := fun _ h => List.mem_append_right _ (List.mem_append_right _ (List.mem_append_right _ (List.mem_append_right _ (List.mem_append_right _ (List.mem_append_right _ (List.mem_append_right _ (List.mem_append_right _ (List.mem_append_right _ (List.mem_append_right _ (List.mem_append_right _ (List.mem_append_right _ (List.mem_append_right _ (List.mem_append_right _ (List.mem_append_left _ h))))))))))))))
theorem zz_inl_wsX50 : ∀ w ∈ wsX50, w ∈ zz_ws := fun _ h => List.mem_append_right _ (List.mem_append_right _ (List.mem_append_right _ (List.mem_append_right _ (List.mem_append_right _ (List.mem_append_right _ (List.mem_append_right _ (List.mem_append_right _ (List.mem_append_right _ (List.mem_append_right _ (List.mem_append_right _ (List.mem_append_right _ (List.mem_append_right _ (List.mem_append_right _ (List.mem_append_right _ (h)))))))))))))))
