/-! Links: fields, methods, constants, by their numbers in the pools -/
set_option maxRecDepth 100000 in
theorem w_sysini : Cond.initialized "java/lang/System" ∈ xws := xin 5 rfl rfl
set_option maxRecDepth 100000 in
theorem w_mathini : Cond.initialized "java/lang/Math" ∈ xws := xin 7 rfl rfl
set_option maxRecDepth 100000 in
theorem cl_L_7 : Cond.classLink RL 7 RX2 ∈ xws := xin 8 rfl rfl
set_option maxRecDepth 100000 in
theorem nw_L_7 : xnw RL 7 2 13 := ⟨by decide, RX2, TX2, rfl, uwX2, tyX2_ok, by decide +kernel, xin 8 rfl rfl, xin 9 rfl rfl, xin 1 rfl rfl⟩
set_option maxRecDepth 100000 in
theorem lk_L_9 : xlk RL 9 yX2_init := Or.inl (xin 10 rfl rfl)
set_option maxRecDepth 100000 in
theorem im_X2_init : Cond.instanceMethod yX2_init ∈ xws := xin 11 rfl rfl
set_option maxRecDepth 100000 in
theorem cd_X2_init : xcd yX2_init cX2_init 1 none 0 := ⟨xin 12 rfl rfl, xin 1 rfl rfl, ⟨by decide, by decide, by decide +kernel⟩, by decide⟩
set_option maxRecDepth 100000 in
theorem ol_X2_3 : Cond.methodLink RX2 3 objectInit ∈ xws := xin 13 rfl rfl
set_option maxRecDepth 100000 in
theorem w_objinst : Cond.instanceMethod objectInit ∈ xws := xin 14 rfl rfl
set_option maxRecDepth 100000 in
theorem w_objcode : Cond.code objectInit ⟨#[0xb1]⟩ 1 none ∈ xws := xin 15 rfl rfl
set_option maxRecDepth 100000 in
theorem cl_X2_9 : Cond.classLink RX2 9 RX1 ∈ xws := xin 16 rfl rfl
set_option maxRecDepth 100000 in
theorem nw_X2_9 : xnw RX2 9 1 7 := ⟨by decide, RX1, TX1, rfl, uwX1, tyX1_ok, by decide +kernel, xin 16 rfl rfl, xin 94 rfl rfl, xin 4 rfl rfl⟩
set_option maxRecDepth 100000 in
theorem ao_v : Cond.arrayOver (.object RX1) ∈ xnest := by simp [xnest, RX1]
set_option maxRecDepth 100000 in
theorem cl_X2_15 : Cond.classLink RX2 15 RX0 ∈ xws := xin 18 rfl rfl
set_option maxRecDepth 100000 in
theorem nw_X2_15 : xnw RX2 15 0 3 := ⟨by decide, RX0, TX0, rfl, uwX0, tyX0_ok, by decide +kernel, xin 18 rfl rfl, xin 19 rfl rfl, xin 2 rfl rfl⟩
set_option maxRecDepth 100000 in
theorem lk_X2_17 : xlk RX2 17 yX0_init := Or.inr ⟨RX2, by simp [xnest, yX0_init, RX0, RX1, RX2]⟩
set_option maxRecDepth 100000 in
theorem im_X0_init : Cond.instanceMethod yX0_init ∈ xws := xin 21 rfl rfl
set_option maxRecDepth 100000 in
theorem cd_X0_init : xcd yX0_init cX0_init 1 none 0 := ⟨xin 22 rfl rfl, xin 2 rfl rfl, ⟨by decide, by decide, by decide +kernel⟩, by decide⟩
set_option maxRecDepth 100000 in
theorem ol_X0_3 : Cond.methodLink RX0 3 objectInit ∈ xws := xin 23 rfl rfl
set_option maxRecDepth 100000 in
theorem fl_X0_18 : xfl RX0 18 0 0 := ⟨by decide, RX0, TX0, 3, rfl, by decide, uwX0, tyX0_ok, nmX0, Or.inl (xin 24 rfl rfl)⟩
set_option maxRecDepth 100000 in
theorem fl_X2_139 : xfl RX2 139 0 0 := ⟨by decide, RX0, TX0, 3, rfl, by decide, uwX0, tyX0_ok, nmX0, Or.inr ⟨RX2, by simp [xnest, TX0, RX2]⟩⟩
set_option maxRecDepth 100000 in
theorem fl_X0_9 : xfl RX0 9 0 1 := ⟨by decide, RX0, TX0, 3, rfl, by decide, uwX0, tyX0_ok, nmX0, Or.inl (xin 26 rfl rfl)⟩
set_option maxRecDepth 100000 in
theorem fl_X2_203 : xfl RX2 203 0 1 := ⟨by decide, RX0, TX0, 3, rfl, by decide, uwX0, tyX0_ok, nmX0, Or.inr ⟨RX2, by simp [xnest, TX0, RX2]⟩⟩
set_option maxRecDepth 100000 in
theorem fl_X0_15 : xfl RX0 15 0 2 := ⟨by decide, RX0, TX0, 3, rfl, by decide, uwX0, tyX0_ok, nmX0, Or.inl (xin 28 rfl rfl)⟩
set_option maxRecDepth 100000 in
theorem fl_X2_206 : xfl RX2 206 0 2 := ⟨by decide, RX0, TX0, 3, rfl, by decide, uwX0, tyX0_ok, nmX0, Or.inr ⟨RX2, by simp [xnest, TX0, RX2]⟩⟩
set_option maxRecDepth 100000 in
theorem ac_long : Cond.arrayClass .long ∈ xws := xin 37 rfl rfl
set_option maxRecDepth 100000 in
theorem fl_X2_11 : xfl RX2 11 2 0 := ⟨by decide, RX2, TX2, 13, rfl, by decide, uwX2, tyX2_ok, nmX2, Or.inl (xin 38 rfl rfl)⟩
set_option maxRecDepth 100000 in
theorem fl_X2_18 : xfl RX2 18 2 1 := ⟨by decide, RX2, TX2, 13, rfl, by decide, uwX2, tyX2_ok, nmX2, Or.inl (xin 39 rfl rfl)⟩
set_option maxRecDepth 100000 in
theorem fl_X2_22 : xfl RX2 22 2 2 := ⟨by decide, RX2, TX2, 13, rfl, by decide, uwX2, tyX2_ok, nmX2, Or.inl (xin 40 rfl rfl)⟩
set_option maxRecDepth 100000 in
theorem fl_X2_38 : xfl RX2 38 2 3 := ⟨by decide, RX2, TX2, 13, rfl, by decide, uwX2, tyX2_ok, nmX2, Or.inl (xin 41 rfl rfl)⟩
set_option maxRecDepth 100000 in
theorem fl_X2_42 : xfl RX2 42 2 4 := ⟨by decide, RX2, TX2, 13, rfl, by decide, uwX2, tyX2_ok, nmX2, Or.inl (xin 42 rfl rfl)⟩
set_option maxRecDepth 100000 in
theorem fl_X2_29 : xfl RX2 29 2 5 := ⟨by decide, RX2, TX2, 13, rfl, by decide, uwX2, tyX2_ok, nmX2, Or.inl (xin 43 rfl rfl)⟩
set_option maxRecDepth 100000 in
theorem fl_X2_25 : xfl RX2 25 2 6 := ⟨by decide, RX2, TX2, 13, rfl, by decide, uwX2, tyX2_ok, nmX2, Or.inl (xin 44 rfl rfl)⟩
set_option maxRecDepth 100000 in
theorem fl_X2_32 : xfl RX2 32 2 7 := ⟨by decide, RX2, TX2, 13, rfl, by decide, uwX2, tyX2_ok, nmX2, Or.inl (xin 45 rfl rfl)⟩
set_option maxRecDepth 100000 in
theorem fl_X2_45 : xfl RX2 45 2 8 := ⟨by decide, RX2, TX2, 13, rfl, by decide, uwX2, tyX2_ok, nmX2, Or.inl (xin 46 rfl rfl)⟩
set_option maxRecDepth 100000 in
theorem fl_X2_48 : xfl RX2 48 2 9 := ⟨by decide, RX2, TX2, 13, rfl, by decide, uwX2, tyX2_ok, nmX2, Or.inl (xin 47 rfl rfl)⟩
set_option maxRecDepth 100000 in
theorem fl_X2_51 : xfl RX2 51 2 10 := ⟨by decide, RX2, TX2, 13, rfl, by decide, uwX2, tyX2_ok, nmX2, Or.inl (xin 48 rfl rfl)⟩
set_option maxRecDepth 100000 in
theorem fl_X2_54 : xfl RX2 54 2 11 := ⟨by decide, RX2, TX2, 13, rfl, by decide, uwX2, tyX2_ok, nmX2, Or.inl (xin 49 rfl rfl)⟩
set_option maxRecDepth 100000 in
theorem fl_X2_60 : xfl RX2 60 2 12 := ⟨by decide, RX2, TX2, 13, rfl, by decide, uwX2, tyX2_ok, nmX2, Or.inl (xin 50 rfl rfl)⟩
set_option maxRecDepth 100000 in
theorem lk_L_13 : xlk RL 13 yX2_graph := Or.inl (xin 78 rfl rfl)
set_option maxRecDepth 100000 in
theorem im_X2_graph : Cond.instanceMethod yX2_graph ∈ xws := xin 79 rfl rfl
set_option maxRecDepth 100000 in
theorem se_X2_graph : Cond.selects yX2_graph.cls yX2_graph yX2_graph ∈ xws := xin 80 rfl rfl
set_option maxRecDepth 100000 in
theorem cd_X2_graph : xcd yX2_graph cX2_graph 3 (some .int) 2 := ⟨xin 81 rfl rfl, xin 1 rfl rfl, ⟨by decide, by decide, by decide +kernel⟩, by decide⟩
set_option maxRecDepth 100000 in
theorem lk_X2_35 : xlk RX2 35 yX0_clear := Or.inr ⟨RX2, by simp [xnest, yX0_clear, RX0, RX1, RX2]⟩
set_option maxRecDepth 100000 in
theorem im_X0_clear : Cond.instanceMethod yX0_clear ∈ xws := xin 84 rfl rfl
set_option maxRecDepth 100000 in
theorem cd_X0_clear : xcd yX0_clear cX0_clear 2 none 0 := ⟨xin 85 rfl rfl, xin 2 rfl rfl, ⟨by decide, by decide, by decide +kernel⟩, by decide⟩
set_option maxRecDepth 100000 in
theorem lk_X2_57 : xlk RX2 57 yX2_makeFirst := Or.inl (xin 86 rfl rfl)
set_option maxRecDepth 100000 in
theorem im_X2_makeFirst : Cond.instanceMethod yX2_makeFirst ∈ xws := xin 88 rfl rfl
set_option maxRecDepth 100000 in
theorem cd_X2_makeFirst : xcd yX2_makeFirst cX2_makeFirst 3 none 0 := ⟨xin 89 rfl rfl, xin 1 rfl rfl, ⟨by decide, by decide, by decide +kernel⟩, by decide⟩
set_option maxRecDepth 100000 in
theorem lk_X2_195 : xlk RX2 195 yX2_takeRoom := Or.inl (xin 90 rfl rfl)
set_option maxRecDepth 100000 in
theorem im_X2_takeRoom : Cond.instanceMethod yX2_takeRoom ∈ xws := xin 92 rfl rfl
set_option maxRecDepth 100000 in
theorem cd_X2_takeRoom : xcd yX2_takeRoom cX2_takeRoom 2 (some (.object "VersionChunks$Version")) 0 := ⟨xin 93 rfl rfl, xin 1 rfl rfl, ⟨by decide, by decide, by decide +kernel⟩, by decide⟩
set_option maxRecDepth 100000 in
theorem lk_X2_194 : xlk RX2 194 yX1_init := Or.inr ⟨RX2, by simp [xnest, yX1_init, RX0, RX1, RX2]⟩
set_option maxRecDepth 100000 in
theorem im_X1_init : Cond.instanceMethod yX1_init ∈ xws := xin 96 rfl rfl
set_option maxRecDepth 100000 in
theorem cd_X1_init : xcd yX1_init cX1_init 1 none 0 := ⟨xin 97 rfl rfl, xin 4 rfl rfl, ⟨by decide, by decide, by decide +kernel⟩, by decide⟩
set_option maxRecDepth 100000 in
theorem ol_X1_3 : Cond.methodLink RX1 3 objectInit ∈ xws := xin 98 rfl rfl
set_option maxRecDepth 100000 in
theorem fl_X2_102 : xfl RX2 102 1 0 := ⟨by decide, RX1, TX1, 7, rfl, by decide, uwX1, tyX1_ok, nmX1, Or.inr ⟨RX2, by simp [xnest, TX1, RX2]⟩⟩
set_option maxRecDepth 100000 in
theorem fl_X2_185 : xfl RX2 185 1 1 := ⟨by decide, RX1, TX1, 7, rfl, by decide, uwX1, tyX1_ok, nmX1, Or.inr ⟨RX2, by simp [xnest, TX1, RX2]⟩⟩
set_option maxRecDepth 100000 in
theorem fl_X2_191 : xfl RX2 191 1 2 := ⟨by decide, RX1, TX1, 7, rfl, by decide, uwX1, tyX1_ok, nmX1, Or.inr ⟨RX2, by simp [xnest, TX1, RX2]⟩⟩
set_option maxRecDepth 100000 in
theorem fl_X2_175 : xfl RX2 175 1 3 := ⟨by decide, RX1, TX1, 7, rfl, by decide, uwX1, tyX1_ok, nmX1, Or.inr ⟨RX2, by simp [xnest, TX1, RX2]⟩⟩
set_option maxRecDepth 100000 in
theorem fl_X1_9 : xfl RX1 9 1 4 := ⟨by decide, RX1, TX1, 7, rfl, by decide, uwX1, tyX1_ok, nmX1, Or.inl (xin 103 rfl rfl)⟩
set_option maxRecDepth 100000 in
theorem fl_X2_110 : xfl RX2 110 1 4 := ⟨by decide, RX1, TX1, 7, rfl, by decide, uwX1, tyX1_ok, nmX1, Or.inr ⟨RX2, by simp [xnest, TX1, RX2]⟩⟩
set_option maxRecDepth 100000 in
theorem fl_X1_15 : xfl RX1 15 1 5 := ⟨by decide, RX1, TX1, 7, rfl, by decide, uwX1, tyX1_ok, nmX1, Or.inl (xin 105 rfl rfl)⟩
set_option maxRecDepth 100000 in
theorem fl_X2_86 : xfl RX2 86 1 5 := ⟨by decide, RX1, TX1, 7, rfl, by decide, uwX1, tyX1_ok, nmX1, Or.inr ⟨RX2, by simp [xnest, TX1, RX2]⟩⟩
set_option maxRecDepth 100000 in
theorem fl_X1_18 : xfl RX1 18 1 6 := ⟨by decide, RX1, TX1, 7, rfl, by decide, uwX1, tyX1_ok, nmX1, Or.inl (xin 107 rfl rfl)⟩
set_option maxRecDepth 100000 in
theorem fl_X2_90 : xfl RX2 90 1 6 := ⟨by decide, RX1, TX1, 7, rfl, by decide, uwX1, tyX1_ok, nmX1, Or.inr ⟨RX2, by simp [xnest, TX1, RX2]⟩⟩
set_option maxRecDepth 100000 in
theorem ac_int : Cond.arrayClass .int ∈ xws := xin 124 rfl rfl
set_option maxRecDepth 100000 in
theorem ki_X2_109 : Cond.constant RX2 109 (-99999999) ∈ xws := xin 125 rfl rfl
set_option maxRecDepth 100000 in
theorem lk_X2_98 : xlk RX2 98 yX2_nextChunk := Or.inl (xin 126 rfl rfl)
set_option maxRecDepth 100000 in
theorem im_X2_nextChunk : Cond.instanceMethod yX2_nextChunk ∈ xws := xin 128 rfl rfl
set_option maxRecDepth 100000 in
theorem cd_X2_nextChunk : xcd yX2_nextChunk cX2_nextChunk 2 (some .int) 0 := ⟨xin 129 rfl rfl, xin 1 rfl rfl, ⟨by decide, by decide, by decide +kernel⟩, by decide⟩
set_option maxRecDepth 100000 in
theorem lk_L_18 : xlk RL 18 yX2_clock := Or.inl (xin 130 rfl rfl)
set_option maxRecDepth 100000 in
theorem im_X2_clock : Cond.instanceMethod yX2_clock ∈ xws := xin 131 rfl rfl
set_option maxRecDepth 100000 in
theorem se_X2_clock : Cond.selects yX2_clock.cls yX2_clock yX2_clock ∈ xws := xin 132 rfl rfl
set_option maxRecDepth 100000 in
theorem cd_X2_clock : xcd yX2_clock cX2_clock 3 (some .int) 1 := ⟨xin 133 rfl rfl, xin 1 rfl rfl, ⟨by decide, by decide, by decide +kernel⟩, by decide⟩
set_option maxRecDepth 100000 in
theorem lk_L_23 : xlk RL 23 yX2_put := Or.inl (xin 134 rfl rfl)
set_option maxRecDepth 100000 in
theorem im_X2_put : Cond.instanceMethod yX2_put ∈ xws := xin 135 rfl rfl
set_option maxRecDepth 100000 in
theorem se_X2_put : Cond.selects yX2_put.cls yX2_put yX2_put ∈ xws := xin 136 rfl rfl
set_option maxRecDepth 100000 in
theorem cd_X2_put : xcd yX2_put cX2_put 4 (some .int) 3 := ⟨xin 137 rfl rfl, xin 1 rfl rfl, ⟨by decide, by decide, by decide +kernel⟩, by decide⟩
set_option maxRecDepth 100000 in
theorem lk_X2_63 : xlk RX2 63 yX2_changeArc := Or.inl (xin 138 rfl rfl)
set_option maxRecDepth 100000 in
theorem im_X2_changeArc : Cond.instanceMethod yX2_changeArc ∈ xws := xin 140 rfl rfl
set_option maxRecDepth 100000 in
theorem cd_X2_changeArc : xcd yX2_changeArc cX2_changeArc 7 (some .int) 4 := ⟨xin 141 rfl rfl, xin 1 rfl rfl, ⟨by decide, by decide, by decide +kernel⟩, by decide⟩
set_option maxRecDepth 100000 in
theorem lk_X2_67 : xlk RX2 67 yX2_living := Or.inl (xin 142 rfl rfl)
set_option maxRecDepth 100000 in
theorem im_X2_living : Cond.instanceMethod yX2_living ∈ xws := xin 144 rfl rfl
set_option maxRecDepth 100000 in
theorem cd_X2_living : xcd yX2_living cX2_living 3 (some (.object "VersionChunks$Version")) 1 := ⟨xin 145 rfl rfl, xin 1 rfl rfl, ⟨by decide, by decide, by decide +kernel⟩, by decide⟩
set_option maxRecDepth 100000 in
theorem lk_X2_182 : xlk RX2 182 yX2_everMade := Or.inl (xin 146 rfl rfl)
set_option maxRecDepth 100000 in
theorem im_X2_everMade : Cond.instanceMethod yX2_everMade ∈ xws := xin 148 rfl rfl
set_option maxRecDepth 100000 in
theorem cd_X2_everMade : xcd yX2_everMade cX2_everMade 2 (some (.object "VersionChunks$Version")) 1 := ⟨xin 149 rfl rfl, xin 1 rfl rfl, ⟨by decide, by decide, by decide +kernel⟩, by decide⟩
set_option maxRecDepth 100000 in
theorem lk_X2_75 : xlk RX2 75 yX2_isNode := Or.inl (xin 150 rfl rfl)
set_option maxRecDepth 100000 in
theorem im_X2_isNode : Cond.instanceMethod yX2_isNode ∈ xws := xin 152 rfl rfl
set_option maxRecDepth 100000 in
theorem cd_X2_isNode : xcd yX2_isNode cX2_isNode 2 (some .boolean) 1 := ⟨xin 153 rfl rfl, xin 1 rfl rfl, ⟨by decide, by decide, by decide +kernel⟩, by decide⟩
set_option maxRecDepth 100000 in
theorem lk_X2_105 : xlk RX2 105 yX1_leads := Or.inr ⟨RX2, by simp [xnest, yX1_leads, RX0, RX1, RX2]⟩
set_option maxRecDepth 100000 in
theorem im_X1_leads : Cond.instanceMethod yX1_leads ∈ xws := xin 156 rfl rfl
set_option maxRecDepth 100000 in
theorem cd_X1_leads : xcd yX1_leads cX1_leads 3 (some .boolean) 2 := ⟨xin 157 rfl rfl, xin 4 rfl rfl, ⟨by decide, by decide, by decide +kernel⟩, by decide⟩
set_option maxRecDepth 100000 in
theorem lk_X1_22 : xlk RX1 22 yX2_isBitSet := Or.inr ⟨RX2, by simp [xnest, yX2_isBitSet, RX0, RX1, RX2]⟩
set_option maxRecDepth 100000 in
theorem st_X2_isBitSet : Cond.static yX2_isBitSet ∈ xws := xin 159 rfl rfl
set_option maxRecDepth 100000 in
theorem cd_X2_isBitSet : xcd yX2_isBitSet cX2_isBitSet 3 (some .boolean) 2 := ⟨xin 160 rfl rfl, xin 1 rfl rfl, ⟨by decide, by decide, by decide +kernel⟩, by decide⟩
set_option maxRecDepth 100000 in
theorem lk_X2_78 : xlk RX2 78 yX2_makeFrom := Or.inl (xin 161 rfl rfl)
set_option maxRecDepth 100000 in
theorem im_X2_makeFrom : Cond.instanceMethod yX2_makeFrom ∈ xws := xin 163 rfl rfl
set_option maxRecDepth 100000 in
theorem cd_X2_makeFrom : xcd yX2_makeFrom cX2_makeFrom 3 (some (.object "VersionChunks$Version")) 1 := ⟨xin 164 rfl rfl, xin 1 rfl rfl, ⟨by decide, by decide, by decide +kernel⟩, by decide⟩
set_option maxRecDepth 100000 in
theorem lk_X2_199 : xlk RX2 199 yX1_copyItems := Or.inr ⟨RX2, by simp [xnest, yX1_copyItems, RX0, RX1, RX2]⟩
set_option maxRecDepth 100000 in
theorem im_X1_copyItems : Cond.instanceMethod yX1_copyItems ∈ xws := xin 167 rfl rfl
set_option maxRecDepth 100000 in
theorem cd_X1_copyItems : xcd yX1_copyItems cX1_copyItems 2 none 1 := ⟨xin 168 rfl rfl, xin 4 rfl rfl, ⟨by decide, by decide, by decide +kernel⟩, by decide⟩
set_option maxRecDepth 100000 in
theorem sl_X1_26 : Cond.methodLink RX1 26 arraycopyName ∈ xws := xin 169 rfl rfl
set_option maxRecDepth 100000 in
theorem w_cpst : Cond.static arraycopyName ∈ xws := xin 170 rfl rfl
set_option maxRecDepth 100000 in
theorem w_cpnat : Cond.native arraycopyName ∈ xws := xin 171 rfl rfl
set_option maxRecDepth 100000 in
theorem lk_X2_94 : xlk RX2 94 yX2_chunkOfNode := Or.inl (xin 172 rfl rfl)
set_option maxRecDepth 100000 in
theorem im_X2_chunkOfNode : Cond.instanceMethod yX2_chunkOfNode ∈ xws := xin 174 rfl rfl
set_option maxRecDepth 100000 in
theorem cd_X2_chunkOfNode : xcd yX2_chunkOfNode cX2_chunkOfNode 2 (some .int) 1 := ⟨xin 175 rfl rfl, xin 1 rfl rfl, ⟨by decide, by decide, by decide +kernel⟩, by decide⟩
set_option maxRecDepth 100000 in
theorem lk_L_28 : xlk RL 28 yX2_take := Or.inl (xin 176 rfl rfl)
set_option maxRecDepth 100000 in
theorem im_X2_take : Cond.instanceMethod yX2_take ∈ xws := xin 177 rfl rfl
set_option maxRecDepth 100000 in
theorem se_X2_take : Cond.selects yX2_take.cls yX2_take yX2_take ∈ xws := xin 178 rfl rfl
set_option maxRecDepth 100000 in
theorem cd_X2_take : xcd yX2_take cX2_take 4 (some .int) 3 := ⟨xin 179 rfl rfl, xin 1 rfl rfl, ⟨by decide, by decide, by decide +kernel⟩, by decide⟩
set_option maxRecDepth 100000 in
theorem lk_L_34 : xlk RL 34 yX2_set := Or.inl (xin 180 rfl rfl)
set_option maxRecDepth 100000 in
theorem im_X2_set : Cond.instanceMethod yX2_set ∈ xws := xin 181 rfl rfl
set_option maxRecDepth 100000 in
theorem se_X2_set : Cond.selects yX2_set.cls yX2_set yX2_set ∈ xws := xin 182 rfl rfl
set_option maxRecDepth 100000 in
theorem cd_X2_set : xcd yX2_set cX2_set 8 (some .int) 4 := ⟨xin 183 rfl rfl, xin 1 rfl rfl, ⟨by decide, by decide, by decide +kernel⟩, by decide⟩
set_option maxRecDepth 100000 in
theorem lk_X2_71 : xlk RX2 71 yX2_isColumn := Or.inl (xin 184 rfl rfl)
set_option maxRecDepth 100000 in
theorem st_X2_isColumn : Cond.static yX2_isColumn ∈ xws := xin 185 rfl rfl
set_option maxRecDepth 100000 in
theorem cd_X2_isColumn : xcd yX2_isColumn cX2_isColumn 1 (some .boolean) 1 := ⟨xin 186 rfl rfl, xin 1 rfl rfl, ⟨by decide, by decide, by decide +kernel⟩, by decide⟩
set_option maxRecDepth 100000 in
theorem lk_X2_82 : xlk RX2 82 yX1_numberAt := Or.inr ⟨RX2, by simp [xnest, yX1_numberAt, RX0, RX1, RX2]⟩
set_option maxRecDepth 100000 in
theorem im_X1_numberAt : Cond.instanceMethod yX1_numberAt ∈ xws := xin 189 rfl rfl
set_option maxRecDepth 100000 in
theorem cd_X1_numberAt : xcd yX1_numberAt cX1_numberAt 3 (some .long) 2 := ⟨xin 190 rfl rfl, xin 4 rfl rfl, ⟨by decide, by decide, by decide +kernel⟩, by decide⟩
set_option maxRecDepth 100000 in
theorem lk_L_39 : xlk RL 39 yX2_has := Or.inl (xin 191 rfl rfl)
set_option maxRecDepth 100000 in
theorem im_X2_has : Cond.instanceMethod yX2_has ∈ xws := xin 192 rfl rfl
set_option maxRecDepth 100000 in
theorem se_X2_has : Cond.selects yX2_has.cls yX2_has yX2_has ∈ xws := xin 193 rfl rfl
set_option maxRecDepth 100000 in
theorem cd_X2_has : xcd yX2_has cX2_has 5 (some .int) 3 := ⟨xin 194 rfl rfl, xin 1 rfl rfl, ⟨by decide, by decide, by decide +kernel⟩, by decide⟩
set_option maxRecDepth 100000 in
theorem lk_L_43 : xlk RL 43 yX2_at := Or.inl (xin 195 rfl rfl)
set_option maxRecDepth 100000 in
theorem im_X2_at : Cond.instanceMethod yX2_at ∈ xws := xin 196 rfl rfl
set_option maxRecDepth 100000 in
theorem se_X2_at : Cond.selects yX2_at.cls yX2_at yX2_at ∈ xws := xin 197 rfl rfl
set_option maxRecDepth 100000 in
theorem cd_X2_at : xcd yX2_at cX2_at 5 (some .long) 3 := ⟨xin 198 rfl rfl, xin 1 rfl rfl, ⟨by decide, by decide, by decide +kernel⟩, by decide⟩
set_option maxRecDepth 100000 in
theorem lk_L_48 : xlk RL 48 yX2_arc := Or.inl (xin 199 rfl rfl)
set_option maxRecDepth 100000 in
theorem im_X2_arc : Cond.instanceMethod yX2_arc ∈ xws := xin 200 rfl rfl
set_option maxRecDepth 100000 in
theorem se_X2_arc : Cond.selects yX2_arc.cls yX2_arc yX2_arc ∈ xws := xin 201 rfl rfl
set_option maxRecDepth 100000 in
theorem cd_X2_arc : xcd yX2_arc cX2_arc 8 (some .int) 3 := ⟨xin 202 rfl rfl, xin 1 rfl rfl, ⟨by decide, by decide, by decide +kernel⟩, by decide⟩
set_option maxRecDepth 100000 in
theorem lk_X2_113 : xlk RX2 113 yJ13_bitCount_95d88 := Or.inl (xin 203 rfl rfl)
set_option maxRecDepth 100000 in
theorem st_J13_bitCount_95d88 : Cond.static yJ13_bitCount_95d88 ∈ xws := xin 204 rfl rfl
set_option maxRecDepth 100000 in
theorem cd_J13_bitCount_95d88 : xcd yJ13_bitCount_95d88 cJ13_bitCount_95d88 2 (some .int) 1 := ⟨xin 205 rfl rfl, xin 6 rfl rfl, ⟨by decide, by decide, by decide +kernel⟩, by decide⟩
set_option maxRecDepth 100000 in
theorem kl_J13_314 : Cond.constantLong RJ13 314 (6148914691236517205) ∈ xws := xin 206 rfl rfl
set_option maxRecDepth 100000 in
theorem kl_J13_316 : Cond.constantLong RJ13 316 (3689348814741910323) ∈ xws := xin 207 rfl rfl
set_option maxRecDepth 100000 in
theorem kl_J13_318 : Cond.constantLong RJ13 318 (1085102592571150095) ∈ xws := xin 208 rfl rfl
set_option maxRecDepth 100000 in
theorem lk_X2_119 : xlk RX2 119 yX2_placeOfBit := Or.inl (xin 209 rfl rfl)
set_option maxRecDepth 100000 in
theorem st_X2_placeOfBit : Cond.static yX2_placeOfBit ∈ xws := xin 210 rfl rfl
set_option maxRecDepth 100000 in
theorem cd_X2_placeOfBit : xcd yX2_placeOfBit cX2_placeOfBit 5 (some .int) 2 := ⟨xin 211 rfl rfl, xin 1 rfl rfl, ⟨by decide, by decide, by decide +kernel⟩, by decide⟩
set_option maxRecDepth 100000 in
theorem lk_X2_123 : xlk RX2 123 yX2_isBitSet := Or.inl (xin 212 rfl rfl)
set_option maxRecDepth 100000 in
theorem lk_L_52 : xlk RL 52 yX2_reach := Or.inl (xin 213 rfl rfl)
set_option maxRecDepth 100000 in
theorem im_X2_reach : Cond.instanceMethod yX2_reach ∈ xws := xin 214 rfl rfl
set_option maxRecDepth 100000 in
theorem se_X2_reach : Cond.selects yX2_reach.cls yX2_reach yX2_reach ∈ xws := xin 215 rfl rfl
set_option maxRecDepth 100000 in
theorem cd_X2_reach : xcd yX2_reach cX2_reach 8 (some .int) 3 := ⟨xin 216 rfl rfl, xin 1 rfl rfl, ⟨by decide, by decide, by decide +kernel⟩, by decide⟩
set_option maxRecDepth 100000 in
theorem lk_X2_127 : xlk RX2 127 yX2_ledToFrom := Or.inl (xin 217 rfl rfl)
set_option maxRecDepth 100000 in
theorem im_X2_ledToFrom : Cond.instanceMethod yX2_ledToFrom ∈ xws := xin 219 rfl rfl
set_option maxRecDepth 100000 in
theorem cd_X2_ledToFrom : xcd yX2_ledToFrom cX2_ledToFrom 7 (some .long) 2 := ⟨xin 220 rfl rfl, xin 1 rfl rfl, ⟨by decide, by decide, by decide +kernel⟩, by decide⟩
set_option maxRecDepth 100000 in
theorem lk_L_56 : xlk RL 56 yX2_rows := Or.inl (xin 221 rfl rfl)
set_option maxRecDepth 100000 in
theorem im_X2_rows : Cond.instanceMethod yX2_rows ∈ xws := xin 222 rfl rfl
set_option maxRecDepth 100000 in
theorem se_X2_rows : Cond.selects yX2_rows.cls yX2_rows yX2_rows ∈ xws := xin 223 rfl rfl
set_option maxRecDepth 100000 in
theorem cd_X2_rows : xcd yX2_rows cX2_rows 7 (some .int) 2 := ⟨xin 224 rfl rfl, xin 1 rfl rfl, ⟨by decide, by decide, by decide +kernel⟩, by decide⟩
set_option maxRecDepth 100000 in
theorem lk_X2_131 : xlk RX2 131 yX0_addArcs := Or.inr ⟨RX2, by simp [xnest, yX0_addArcs, RX0, RX1, RX2]⟩
set_option maxRecDepth 100000 in
theorem im_X0_addArcs : Cond.instanceMethod yX0_addArcs ∈ xws := xin 227 rfl rfl
set_option maxRecDepth 100000 in
theorem cd_X0_addArcs : xcd yX0_addArcs cX0_addArcs 4 none 2 := ⟨xin 228 rfl rfl, xin 2 rfl rfl, ⟨by decide, by decide, by decide +kernel⟩, by decide⟩
set_option maxRecDepth 100000 in
theorem lk_X0_22 : xlk RX0 22 yJ13_bitCount_95d88 := Or.inl (xin 229 rfl rfl)
set_option maxRecDepth 100000 in
theorem lk_X2_135 : xlk RX2 135 yX0_addColumn := Or.inr ⟨RX2, by simp [xnest, yX0_addColumn, RX0, RX1, RX2]⟩
set_option maxRecDepth 100000 in
theorem im_X0_addColumn : Cond.instanceMethod yX0_addColumn ∈ xws := xin 232 rfl rfl
set_option maxRecDepth 100000 in
theorem cd_X0_addColumn : xcd yX0_addColumn cX0_addColumn 3 none 2 := ⟨xin 233 rfl rfl, xin 2 rfl rfl, ⟨by decide, by decide, by decide +kernel⟩, by decide⟩
set_option maxRecDepth 100000 in
theorem lk_L_60 : xlk RL 60 yX2_row := Or.inl (xin 234 rfl rfl)
set_option maxRecDepth 100000 in
theorem im_X2_row : Cond.instanceMethod yX2_row ∈ xws := xin 235 rfl rfl
set_option maxRecDepth 100000 in
theorem se_X2_row : Cond.selects yX2_row.cls yX2_row yX2_row ∈ xws := xin 236 rfl rfl
set_option maxRecDepth 100000 in
theorem cd_X2_row : xcd yX2_row cX2_row 3 (some .int) 2 := ⟨xin 237 rfl rfl, xin 1 rfl rfl, ⟨by decide, by decide, by decide +kernel⟩, by decide⟩
set_option maxRecDepth 100000 in
theorem lk_X2_142 : xlk RX2 142 yX0_find := Or.inr ⟨RX2, by simp [xnest, yX0_find, RX0, RX1, RX2]⟩
set_option maxRecDepth 100000 in
theorem im_X0_find : Cond.instanceMethod yX0_find ∈ xws := xin 240 rfl rfl
set_option maxRecDepth 100000 in
theorem cd_X0_find : xcd yX0_find cX0_find 6 (some .int) 1 := ⟨xin 241 rfl rfl, xin 2 rfl rfl, ⟨by decide, by decide, by decide +kernel⟩, by decide⟩
set_option maxRecDepth 100000 in
theorem lk_X0_28 : xlk RX0 28 yX2_placeOfBit := Or.inr ⟨RX2, by simp [xnest, yX2_placeOfBit, RX0, RX1, RX2]⟩
set_option maxRecDepth 100000 in
theorem lk_X2_145 : xlk RX2 145 yX2_tellItem := Or.inl (xin 243 rfl rfl)
set_option maxRecDepth 100000 in
theorem st_X2_tellItem : Cond.static yX2_tellItem ∈ xws := xin 244 rfl rfl
set_option maxRecDepth 100000 in
theorem cd_X2_tellItem : xcd yX2_tellItem cX2_tellItem 3 (some .int) 2 := ⟨xin 245 rfl rfl, xin 1 rfl rfl, ⟨by decide, by decide, by decide +kernel⟩, by decide⟩
set_option maxRecDepth 100000 in
theorem lk_L_64 : xlk RL 64 yX2_was := Or.inl (xin 246 rfl rfl)
set_option maxRecDepth 100000 in
theorem im_X2_was : Cond.instanceMethod yX2_was ∈ xws := xin 247 rfl rfl
set_option maxRecDepth 100000 in
theorem se_X2_was : Cond.selects yX2_was.cls yX2_was yX2_was ∈ xws := xin 248 rfl rfl
set_option maxRecDepth 100000 in
theorem cd_X2_was : xcd yX2_was cX2_was 7 (some .long) 2 := ⟨xin 249 rfl rfl, xin 1 rfl rfl, ⟨by decide, by decide, by decide +kernel⟩, by decide⟩
set_option maxRecDepth 100000 in
theorem lk_L_69 : xlk RL 69 yX2_turn := Or.inl (xin 250 rfl rfl)
set_option maxRecDepth 100000 in
theorem im_X2_turn : Cond.instanceMethod yX2_turn ∈ xws := xin 251 rfl rfl
set_option maxRecDepth 100000 in
theorem se_X2_turn : Cond.selects yX2_turn.cls yX2_turn yX2_turn ∈ xws := xin 252 rfl rfl
set_option maxRecDepth 100000 in
theorem cd_X2_turn : xcd yX2_turn cX2_turn 5 (some .int) 1 := ⟨xin 253 rfl rfl, xin 1 rfl rfl, ⟨by decide, by decide, by decide +kernel⟩, by decide⟩
set_option maxRecDepth 100000 in
theorem lk_X2_149 : xlk RX2 149 yX2_canTurn := Or.inl (xin 254 rfl rfl)
set_option maxRecDepth 100000 in
theorem im_X2_canTurn : Cond.instanceMethod yX2_canTurn ∈ xws := xin 256 rfl rfl
set_option maxRecDepth 100000 in
theorem cd_X2_canTurn : xcd yX2_canTurn cX2_canTurn 6 (some .boolean) 3 := ⟨xin 257 rfl rfl, xin 1 rfl rfl, ⟨by decide, by decide, by decide +kernel⟩, by decide⟩
set_option maxRecDepth 100000 in
theorem lk_X2_153 : xlk RX2 153 yX2_turnItems := Or.inl (xin 258 rfl rfl)
set_option maxRecDepth 100000 in
theorem im_X2_turnItems : Cond.instanceMethod yX2_turnItems ∈ xws := xin 260 rfl rfl
set_option maxRecDepth 100000 in
theorem cd_X2_turnItems : xcd yX2_turnItems cX2_turnItems 7 none 2 := ⟨xin 261 rfl rfl, xin 1 rfl rfl, ⟨by decide, by decide, by decide +kernel⟩, by decide⟩
set_option maxRecDepth 100000 in
theorem kl_X2_204 : Cond.constantLong RX2 204 (-1) ∈ xws := xin 262 rfl rfl
set_option maxRecDepth 100000 in
theorem lk_X2_157 : xlk RX2 157 yX2_isChunkAlike := Or.inl (xin 263 rfl rfl)
set_option maxRecDepth 100000 in
theorem im_X2_isChunkAlike : Cond.instanceMethod yX2_isChunkAlike ∈ xws := xin 265 rfl rfl
set_option maxRecDepth 100000 in
theorem cd_X2_isChunkAlike : xcd yX2_isChunkAlike cX2_isChunkAlike 7 (some .boolean) 3 := ⟨xin 266 rfl rfl, xin 1 rfl rfl, ⟨by decide, by decide, by decide +kernel⟩, by decide⟩
set_option maxRecDepth 100000 in
theorem ml_X2_209 : Cond.methodLink RX2 209 Lib.Math.min.name ∈ xws := xin 267 rfl rfl
set_option maxRecDepth 100000 in
theorem w_minst : Cond.static Lib.Math.min.name ∈ xws := xin 268 rfl rfl
set_option maxRecDepth 100000 in
theorem w_mincode : Cond.code Lib.Math.min.name Lib.Math.min.code 2 (some .int) ∈ xws := xin 269 rfl rfl
set_option maxRecDepth 100000 in
theorem lk_L_73 : xlk RL 73 yX2_join := Or.inl (xin 270 rfl rfl)
set_option maxRecDepth 100000 in
theorem im_X2_join : Cond.instanceMethod yX2_join ∈ xws := xin 271 rfl rfl
set_option maxRecDepth 100000 in
theorem se_X2_join : Cond.selects yX2_join.cls yX2_join yX2_join ∈ xws := xin 272 rfl rfl
set_option maxRecDepth 100000 in
theorem cd_X2_join : xcd yX2_join cX2_join 9 (some .int) 3 := ⟨xin 273 rfl rfl, xin 1 rfl rfl, ⟨by decide, by decide, by decide +kernel⟩, by decide⟩
set_option maxRecDepth 100000 in
theorem lk_X2_161 : xlk RX2 161 yX2_hasConflict := Or.inl (xin 274 rfl rfl)
set_option maxRecDepth 100000 in
theorem im_X2_hasConflict : Cond.instanceMethod yX2_hasConflict ∈ xws := xin 276 rfl rfl
set_option maxRecDepth 100000 in
theorem cd_X2_hasConflict : xcd yX2_hasConflict cX2_hasConflict 5 (some .boolean) 3 := ⟨xin 277 rfl rfl, xin 1 rfl rfl, ⟨by decide, by decide, by decide +kernel⟩, by decide⟩
set_option maxRecDepth 100000 in
theorem lk_X2_214 : xlk RX2 214 yX2_isConflict := Or.inl (xin 278 rfl rfl)
set_option maxRecDepth 100000 in
theorem st_X2_isConflict : Cond.static yX2_isConflict ∈ xws := xin 279 rfl rfl
set_option maxRecDepth 100000 in
theorem cd_X2_isConflict : xcd yX2_isConflict cX2_isConflict 6 (some .boolean) 4 := ⟨xin 280 rfl rfl, xin 1 rfl rfl, ⟨by decide, by decide, by decide +kernel⟩, by decide⟩
set_option maxRecDepth 100000 in
theorem lk_X2_164 : xlk RX2 164 yX2_tellConflicts := Or.inl (xin 281 rfl rfl)
set_option maxRecDepth 100000 in
theorem im_X2_tellConflicts : Cond.instanceMethod yX2_tellConflicts ∈ xws := xin 283 rfl rfl
set_option maxRecDepth 100000 in
theorem cd_X2_tellConflicts : xcd yX2_tellConflicts cX2_tellConflicts 6 none 3 := ⟨xin 284 rfl rfl, xin 1 rfl rfl, ⟨by decide, by decide, by decide +kernel⟩, by decide⟩
set_option maxRecDepth 100000 in
theorem lk_X2_168 : xlk RX2 168 yX2_joinItems := Or.inl (xin 285 rfl rfl)
set_option maxRecDepth 100000 in
theorem im_X2_joinItems : Cond.instanceMethod yX2_joinItems ∈ xws := xin 287 rfl rfl
set_option maxRecDepth 100000 in
theorem cd_X2_joinItems : xcd yX2_joinItems cX2_joinItems 7 none 3 := ⟨xin 288 rfl rfl, xin 1 rfl rfl, ⟨by decide, by decide, by decide +kernel⟩, by decide⟩
set_option maxRecDepth 100000 in
theorem lk_X2_171 : xlk RX2 171 yX2_chooseJoinedChunk := Or.inl (xin 289 rfl rfl)
set_option maxRecDepth 100000 in
theorem im_X2_chooseJoinedChunk : Cond.instanceMethod yX2_chooseJoinedChunk ∈ xws := xin 291 rfl rfl
set_option maxRecDepth 100000 in
theorem cd_X2_chooseJoinedChunk : xcd yX2_chooseJoinedChunk cX2_chooseJoinedChunk 9 (some .int) 5 := ⟨xin 292 rfl rfl, xin 1 rfl rfl, ⟨by decide, by decide, by decide +kernel⟩, by decide⟩
set_option maxRecDepth 100000 in
theorem lk_L_77 : xlk RL 77 yX2_conflict := Or.inl (xin 293 rfl rfl)
set_option maxRecDepth 100000 in
theorem im_X2_conflict : Cond.instanceMethod yX2_conflict ∈ xws := xin 294 rfl rfl
set_option maxRecDepth 100000 in
theorem se_X2_conflict : Cond.selects yX2_conflict.cls yX2_conflict yX2_conflict ∈ xws := xin 295 rfl rfl
set_option maxRecDepth 100000 in
theorem cd_X2_conflict : xcd yX2_conflict cX2_conflict 3 (some .int) 2 := ⟨xin 296 rfl rfl, xin 1 rfl rfl, ⟨by decide, by decide, by decide +kernel⟩, by decide⟩
set_option maxRecDepth 100000 in
theorem lk_L_81 : xlk RL 81 yX2_letGo := Or.inl (xin 297 rfl rfl)
set_option maxRecDepth 100000 in
theorem im_X2_letGo : Cond.instanceMethod yX2_letGo ∈ xws := xin 298 rfl rfl
set_option maxRecDepth 100000 in
theorem se_X2_letGo : Cond.selects yX2_letGo.cls yX2_letGo yX2_letGo ∈ xws := xin 299 rfl rfl
set_option maxRecDepth 100000 in
theorem cd_X2_letGo : xcd yX2_letGo cX2_letGo 5 (some .int) 1 := ⟨xin 300 rfl rfl, xin 1 rfl rfl, ⟨by decide, by decide, by decide +kernel⟩, by decide⟩
set_option maxRecDepth 100000 in
theorem lk_X2_179 : xlk RX2 179 yX2_isChunkHeld := Or.inl (xin 301 rfl rfl)
set_option maxRecDepth 100000 in
theorem im_X2_isChunkHeld : Cond.instanceMethod yX2_isChunkHeld ∈ xws := xin 303 rfl rfl
set_option maxRecDepth 100000 in
theorem cd_X2_isChunkHeld : xcd yX2_isChunkHeld cX2_isChunkHeld 5 (some .boolean) 2 := ⟨xin 304 rfl rfl, xin 1 rfl rfl, ⟨by decide, by decide, by decide +kernel⟩, by decide⟩
set_option maxRecDepth 100000 in
theorem lk_L_85 : xlk RL 85 yX2_chunk := Or.inl (xin 305 rfl rfl)
set_option maxRecDepth 100000 in
theorem im_X2_chunk : Cond.instanceMethod yX2_chunk ∈ xws := xin 306 rfl rfl
set_option maxRecDepth 100000 in
theorem se_X2_chunk : Cond.selects yX2_chunk.cls yX2_chunk yX2_chunk ∈ xws := xin 307 rfl rfl
set_option maxRecDepth 100000 in
theorem cd_X2_chunk : xcd yX2_chunk cX2_chunk 4 (some .int) 2 := ⟨xin 308 rfl rfl, xin 1 rfl rfl, ⟨by decide, by decide, by decide +kernel⟩, by decide⟩
set_option maxRecDepth 100000 in
theorem lk_L_89 : xlk RL 89 yX2_shared := Or.inl (xin 309 rfl rfl)
set_option maxRecDepth 100000 in
theorem im_X2_shared : Cond.instanceMethod yX2_shared ∈ xws := xin 310 rfl rfl
set_option maxRecDepth 100000 in
theorem se_X2_shared : Cond.selects yX2_shared.cls yX2_shared yX2_shared ∈ xws := xin 311 rfl rfl
set_option maxRecDepth 100000 in
theorem cd_X2_shared : xcd yX2_shared cX2_shared 7 (some .int) 2 := ⟨xin 312 rfl rfl, xin 1 rfl rfl, ⟨by decide, by decide, by decide +kernel⟩, by decide⟩
set_option maxRecDepth 100000 in
theorem lk_L_93 : xlk RL 93 yX2_parent := Or.inl (xin 313 rfl rfl)
set_option maxRecDepth 100000 in
theorem im_X2_parent : Cond.instanceMethod yX2_parent ∈ xws := xin 314 rfl rfl
set_option maxRecDepth 100000 in
theorem se_X2_parent : Cond.selects yX2_parent.cls yX2_parent yX2_parent ∈ xws := xin 315 rfl rfl
set_option maxRecDepth 100000 in
theorem cd_X2_parent : xcd yX2_parent cX2_parent 3 (some .int) 1 := ⟨xin 316 rfl rfl, xin 1 rfl rfl, ⟨by decide, by decide, by decide +kernel⟩, by decide⟩
set_option maxRecDepth 100000 in
theorem lk_L_97 : xlk RL 97 yX2_ancestor := Or.inl (xin 317 rfl rfl)
set_option maxRecDepth 100000 in
theorem im_X2_ancestor : Cond.instanceMethod yX2_ancestor ∈ xws := xin 318 rfl rfl
set_option maxRecDepth 100000 in
theorem se_X2_ancestor : Cond.selects yX2_ancestor.cls yX2_ancestor yX2_ancestor ∈ xws := xin 319 rfl rfl
set_option maxRecDepth 100000 in
theorem cd_X2_ancestor : xcd yX2_ancestor cX2_ancestor 6 (some .int) 2 := ⟨xin 320 rfl rfl, xin 1 rfl rfl, ⟨by decide, by decide, by decide +kernel⟩, by decide⟩
set_option maxRecDepth 100000 in
theorem lk_X2_188 : xlk RX2 188 yX2_parentOf := Or.inl (xin 321 rfl rfl)
set_option maxRecDepth 100000 in
theorem im_X2_parentOf : Cond.instanceMethod yX2_parentOf ∈ xws := xin 323 rfl rfl
set_option maxRecDepth 100000 in
theorem cd_X2_parentOf : xcd yX2_parentOf cX2_parentOf 3 (some .int) 1 := ⟨xin 324 rfl rfl, xin 1 rfl rfl, ⟨by decide, by decide, by decide +kernel⟩, by decide⟩
set_option maxRecDepth 100000 in
theorem lk_L_101 : xlk RL 101 yX2_time := Or.inl (xin 325 rfl rfl)
set_option maxRecDepth 100000 in
theorem im_X2_time : Cond.instanceMethod yX2_time ∈ xws := xin 326 rfl rfl
set_option maxRecDepth 100000 in
theorem se_X2_time : Cond.selects yX2_time.cls yX2_time yX2_time ∈ xws := xin 327 rfl rfl
set_option maxRecDepth 100000 in
theorem cd_X2_time : xcd yX2_time cX2_time 4 (some .int) 1 := ⟨xin 328 rfl rfl, xin 1 rfl rfl, ⟨by decide, by decide, by decide +kernel⟩, by decide⟩
set_option maxRecDepth 100000 in
theorem lk_L_105 : xlk RL 105 yX2_count := Or.inl (xin 329 rfl rfl)
set_option maxRecDepth 100000 in
theorem im_X2_count : Cond.instanceMethod yX2_count ∈ xws := xin 330 rfl rfl
set_option maxRecDepth 100000 in
theorem se_X2_count : Cond.selects yX2_count.cls yX2_count yX2_count ∈ xws := xin 331 rfl rfl
set_option maxRecDepth 100000 in
theorem cd_X2_count : xcd yX2_count cX2_count 2 (some .int) 1 := ⟨xin 332 rfl rfl, xin 1 rfl rfl, ⟨by decide, by decide, by decide +kernel⟩, by decide⟩
set_option maxRecDepth 100000 in
theorem cl_L_10 : Cond.classLink RL 10 RX3 ∈ xws := xin 333 rfl rfl
set_option maxRecDepth 100000 in
theorem nw_L_10 : xnw RL 10 3 22 := ⟨by decide, RX3, TX3, rfl, uwX3, tyX3_ok, by decide +kernel, xin 333 rfl rfl, xin 334 rfl rfl, xin 3 rfl rfl⟩
set_option maxRecDepth 100000 in
theorem lk_L_12 : xlk RL 12 yX3_init := Or.inl (xin 335 rfl rfl)
set_option maxRecDepth 100000 in
theorem im_X3_init : Cond.instanceMethod yX3_init ∈ xws := xin 336 rfl rfl
set_option maxRecDepth 100000 in
theorem cd_X3_init : xcd yX3_init cX3_init 1 none 0 := ⟨xin 337 rfl rfl, xin 3 rfl rfl, ⟨by decide, by decide, by decide +kernel⟩, by decide⟩
set_option maxRecDepth 100000 in
theorem ol_X3_1 : Cond.methodLink RX3 1 objectInit ∈ xws := xin 338 rfl rfl
set_option maxRecDepth 100000 in
theorem fl_X3_59 : xfl RX3 59 3 0 := ⟨by decide, RX3, TX3, 22, rfl, by decide, uwX3, tyX3_ok, nmX3, Or.inl (xin 339 rfl rfl)⟩
set_option maxRecDepth 100000 in
theorem fl_X3_62 : xfl RX3 62 3 1 := ⟨by decide, RX3, TX3, 22, rfl, by decide, uwX3, tyX3_ok, nmX3, Or.inl (xin 340 rfl rfl)⟩
set_option maxRecDepth 100000 in
theorem fl_X3_65 : xfl RX3 65 3 2 := ⟨by decide, RX3, TX3, 22, rfl, by decide, uwX3, tyX3_ok, nmX3, Or.inl (xin 341 rfl rfl)⟩
set_option maxRecDepth 100000 in
theorem fl_X3_69 : xfl RX3 69 3 3 := ⟨by decide, RX3, TX3, 22, rfl, by decide, uwX3, tyX3_ok, nmX3, Or.inl (xin 342 rfl rfl)⟩
set_option maxRecDepth 100000 in
theorem fl_X3_51 : xfl RX3 51 3 4 := ⟨by decide, RX3, TX3, 22, rfl, by decide, uwX3, tyX3_ok, nmX3, Or.inl (xin 343 rfl rfl)⟩
set_option maxRecDepth 100000 in
theorem fl_X3_72 : xfl RX3 72 3 5 := ⟨by decide, RX3, TX3, 22, rfl, by decide, uwX3, tyX3_ok, nmX3, Or.inl (xin 344 rfl rfl)⟩
set_option maxRecDepth 100000 in
theorem fl_X3_7 : xfl RX3 7 3 6 := ⟨by decide, RX3, TX3, 22, rfl, by decide, uwX3, tyX3_ok, nmX3, Or.inl (xin 345 rfl rfl)⟩
set_option maxRecDepth 100000 in
theorem fl_X3_13 : xfl RX3 13 3 7 := ⟨by decide, RX3, TX3, 22, rfl, by decide, uwX3, tyX3_ok, nmX3, Or.inl (xin 346 rfl rfl)⟩
set_option maxRecDepth 100000 in
theorem fl_X3_16 : xfl RX3 16 3 8 := ⟨by decide, RX3, TX3, 22, rfl, by decide, uwX3, tyX3_ok, nmX3, Or.inl (xin 347 rfl rfl)⟩
set_option maxRecDepth 100000 in
theorem fl_X3_20 : xfl RX3 20 3 9 := ⟨by decide, RX3, TX3, 22, rfl, by decide, uwX3, tyX3_ok, nmX3, Or.inl (xin 348 rfl rfl)⟩
set_option maxRecDepth 100000 in
theorem fl_X3_23 : xfl RX3 23 3 10 := ⟨by decide, RX3, TX3, 22, rfl, by decide, uwX3, tyX3_ok, nmX3, Or.inl (xin 349 rfl rfl)⟩
set_option maxRecDepth 100000 in
theorem fl_X3_26 : xfl RX3 26 3 11 := ⟨by decide, RX3, TX3, 22, rfl, by decide, uwX3, tyX3_ok, nmX3, Or.inl (xin 350 rfl rfl)⟩
set_option maxRecDepth 100000 in
theorem fl_X3_75 : xfl RX3 75 3 12 := ⟨by decide, RX3, TX3, 22, rfl, by decide, uwX3, tyX3_ok, nmX3, Or.inl (xin 351 rfl rfl)⟩
set_option maxRecDepth 100000 in
theorem fl_X3_79 : xfl RX3 79 3 13 := ⟨by decide, RX3, TX3, 22, rfl, by decide, uwX3, tyX3_ok, nmX3, Or.inl (xin 352 rfl rfl)⟩
set_option maxRecDepth 100000 in
theorem fl_X3_30 : xfl RX3 30 3 14 := ⟨by decide, RX3, TX3, 22, rfl, by decide, uwX3, tyX3_ok, nmX3, Or.inl (xin 353 rfl rfl)⟩
set_option maxRecDepth 100000 in
theorem fl_X3_33 : xfl RX3 33 3 15 := ⟨by decide, RX3, TX3, 22, rfl, by decide, uwX3, tyX3_ok, nmX3, Or.inl (xin 354 rfl rfl)⟩
set_option maxRecDepth 100000 in
theorem fl_X3_36 : xfl RX3 36 3 16 := ⟨by decide, RX3, TX3, 22, rfl, by decide, uwX3, tyX3_ok, nmX3, Or.inl (xin 355 rfl rfl)⟩
set_option maxRecDepth 100000 in
theorem fl_X3_39 : xfl RX3 39 3 17 := ⟨by decide, RX3, TX3, 22, rfl, by decide, uwX3, tyX3_ok, nmX3, Or.inl (xin 356 rfl rfl)⟩
set_option maxRecDepth 100000 in
theorem fl_X3_82 : xfl RX3 82 3 18 := ⟨by decide, RX3, TX3, 22, rfl, by decide, uwX3, tyX3_ok, nmX3, Or.inl (xin 357 rfl rfl)⟩
set_option maxRecDepth 100000 in
theorem fl_X3_42 : xfl RX3 42 3 19 := ⟨by decide, RX3, TX3, 22, rfl, by decide, uwX3, tyX3_ok, nmX3, Or.inl (xin 358 rfl rfl)⟩
set_option maxRecDepth 100000 in
theorem fl_X3_45 : xfl RX3 45 3 20 := ⟨by decide, RX3, TX3, 22, rfl, by decide, uwX3, tyX3_ok, nmX3, Or.inl (xin 359 rfl rfl)⟩
set_option maxRecDepth 100000 in
theorem fl_X3_48 : xfl RX3 48 3 21 := ⟨by decide, RX3, TX3, 22, rfl, by decide, uwX3, tyX3_ok, nmX3, Or.inl (xin 360 rfl rfl)⟩
set_option maxRecDepth 100000 in
theorem ac_boolean : Cond.arrayClass .boolean ∈ xws := xin 406 rfl rfl
set_option maxRecDepth 100000 in
theorem lk_L_17 : xlk RL 17 yX3_graph := Or.inl (xin 407 rfl rfl)
set_option maxRecDepth 100000 in
theorem im_X3_graph : Cond.instanceMethod yX3_graph ∈ xws := xin 408 rfl rfl
set_option maxRecDepth 100000 in
theorem se_X3_graph : Cond.selects yX3_graph.cls yX3_graph yX3_graph ∈ xws := xin 409 rfl rfl
set_option maxRecDepth 100000 in
theorem cd_X3_graph : xcd yX3_graph cX3_graph 4 (some .int) 2 := ⟨xin 410 rfl rfl, xin 3 rfl rfl, ⟨by decide, by decide, by decide +kernel⟩, by decide⟩
set_option maxRecDepth 100000 in
theorem lk_X3_55 : xlk RX3 55 yX3_isIn := Or.inl (xin 411 rfl rfl)
set_option maxRecDepth 100000 in
theorem st_X3_isIn : Cond.static yX3_isIn ∈ xws := xin 412 rfl rfl
set_option maxRecDepth 100000 in
theorem cd_X3_isIn : xcd yX3_isIn cX3_isIn 3 (some .boolean) 3 := ⟨xin 413 rfl rfl, xin 3 rfl rfl, ⟨by decide, by decide, by decide +kernel⟩, by decide⟩
set_option maxRecDepth 100000 in
theorem ki_X3_68 : Cond.constant RX3 68 (-99999999) ∈ xws := xin 414 rfl rfl
set_option maxRecDepth 100000 in
theorem lk_L_22 : xlk RL 22 yX3_clock := Or.inl (xin 415 rfl rfl)
set_option maxRecDepth 100000 in
theorem im_X3_clock : Cond.instanceMethod yX3_clock ∈ xws := xin 416 rfl rfl
set_option maxRecDepth 100000 in
theorem se_X3_clock : Cond.selects yX3_clock.cls yX3_clock yX3_clock ∈ xws := xin 417 rfl rfl
set_option maxRecDepth 100000 in
theorem cd_X3_clock : xcd yX3_clock cX3_clock 3 (some .int) 1 := ⟨xin 418 rfl rfl, xin 3 rfl rfl, ⟨by decide, by decide, by decide +kernel⟩, by decide⟩
set_option maxRecDepth 100000 in
theorem lk_L_27 : xlk RL 27 yX3_put := Or.inl (xin 419 rfl rfl)
set_option maxRecDepth 100000 in
theorem im_X3_put : Cond.instanceMethod yX3_put ∈ xws := xin 420 rfl rfl
set_option maxRecDepth 100000 in
theorem se_X3_put : Cond.selects yX3_put.cls yX3_put yX3_put ∈ xws := xin 421 rfl rfl
set_option maxRecDepth 100000 in
theorem cd_X3_put : xcd yX3_put cX3_put 4 (some .int) 3 := ⟨xin 422 rfl rfl, xin 3 rfl rfl, ⟨by decide, by decide, by decide +kernel⟩, by decide⟩
set_option maxRecDepth 100000 in
theorem lk_X3_106 : xlk RX3 106 yX3_isVersion := Or.inl (xin 423 rfl rfl)
set_option maxRecDepth 100000 in
theorem im_X3_isVersion : Cond.instanceMethod yX3_isVersion ∈ xws := xin 425 rfl rfl
set_option maxRecDepth 100000 in
theorem cd_X3_isVersion : xcd yX3_isVersion cX3_isVersion 2 (some .boolean) 1 := ⟨xin 426 rfl rfl, xin 3 rfl rfl, ⟨by decide, by decide, by decide +kernel⟩, by decide⟩
set_option maxRecDepth 100000 in
theorem lk_X3_110 : xlk RX3 110 yX3_isNode := Or.inl (xin 427 rfl rfl)
set_option maxRecDepth 100000 in
theorem im_X3_isNode : Cond.instanceMethod yX3_isNode ∈ xws := xin 429 rfl rfl
set_option maxRecDepth 100000 in
theorem cd_X3_isNode : xcd yX3_isNode cX3_isNode 2 (some .boolean) 1 := ⟨xin 430 rfl rfl, xin 3 rfl rfl, ⟨by decide, by decide, by decide +kernel⟩, by decide⟩
set_option maxRecDepth 100000 in
theorem lk_X3_91 : xlk RX3 91 yX3_item := Or.inl (xin 431 rfl rfl)
set_option maxRecDepth 100000 in
theorem im_X3_item : Cond.instanceMethod yX3_item ∈ xws := xin 433 rfl rfl
set_option maxRecDepth 100000 in
theorem cd_X3_item : xcd yX3_item cX3_item 4 (some .long) 3 := ⟨xin 434 rfl rfl, xin 3 rfl rfl, ⟨by decide, by decide, by decide +kernel⟩, by decide⟩
set_option maxRecDepth 100000 in
theorem lk_X3_113 : xlk RX3 113 yX3_changes := Or.inl (xin 435 rfl rfl)
set_option maxRecDepth 100000 in
theorem im_X3_changes : Cond.instanceMethod yX3_changes ∈ xws := xin 437 rfl rfl
set_option maxRecDepth 100000 in
theorem cd_X3_changes : xcd yX3_changes cX3_changes 6 (some .int) 4 := ⟨xin 438 rfl rfl, xin 3 rfl rfl, ⟨by decide, by decide, by decide +kernel⟩, by decide⟩
set_option maxRecDepth 100000 in
theorem lk_X3_87 : xlk RX3 87 yX3_copies := Or.inl (xin 439 rfl rfl)
set_option maxRecDepth 100000 in
theorem im_X3_copies : Cond.instanceMethod yX3_copies ∈ xws := xin 441 rfl rfl
set_option maxRecDepth 100000 in
theorem cd_X3_copies : xcd yX3_copies cX3_copies 3 none 1 := ⟨xin 442 rfl rfl, xin 3 rfl rfl, ⟨by decide, by decide, by decide +kernel⟩, by decide⟩
set_option maxRecDepth 100000 in
theorem lk_X3_95 : xlk RX3 95 yX3_sets := Or.inl (xin 443 rfl rfl)
set_option maxRecDepth 100000 in
theorem im_X3_sets : Cond.instanceMethod yX3_sets ∈ xws := xin 445 rfl rfl
set_option maxRecDepth 100000 in
theorem cd_X3_sets : xcd yX3_sets cX3_sets 6 none 4 := ⟨xin 446 rfl rfl, xin 3 rfl rfl, ⟨by decide, by decide, by decide +kernel⟩, by decide⟩
set_option maxRecDepth 100000 in
theorem kl_X3_85 : Cond.constantLong RX3 85 (-1) ∈ xws := xin 447 rfl rfl
set_option maxRecDepth 100000 in
theorem lk_X3_99 : xlk RX3 99 yX3_fresh := Or.inl (xin 448 rfl rfl)
set_option maxRecDepth 100000 in
theorem im_X3_fresh : Cond.instanceMethod yX3_fresh ∈ xws := xin 450 rfl rfl
set_option maxRecDepth 100000 in
theorem cd_X3_fresh : xcd yX3_fresh cX3_fresh 2 none 1 := ⟨xin 451 rfl rfl, xin 3 rfl rfl, ⟨by decide, by decide, by decide +kernel⟩, by decide⟩
set_option maxRecDepth 100000 in
theorem lk_X3_102 : xlk RX3 102 yX3_made := Or.inl (xin 452 rfl rfl)
set_option maxRecDepth 100000 in
theorem im_X3_made : Cond.instanceMethod yX3_made ∈ xws := xin 454 rfl rfl
set_option maxRecDepth 100000 in
theorem cd_X3_made : xcd yX3_made cX3_made 1 (some .int) 0 := ⟨xin 455 rfl rfl, xin 3 rfl rfl, ⟨by decide, by decide, by decide +kernel⟩, by decide⟩
set_option maxRecDepth 100000 in
theorem lk_L_31 : xlk RL 31 yX3_take := Or.inl (xin 456 rfl rfl)
set_option maxRecDepth 100000 in
theorem im_X3_take : Cond.instanceMethod yX3_take ∈ xws := xin 457 rfl rfl
set_option maxRecDepth 100000 in
theorem se_X3_take : Cond.selects yX3_take.cls yX3_take yX3_take ∈ xws := xin 458 rfl rfl
set_option maxRecDepth 100000 in
theorem cd_X3_take : xcd yX3_take cX3_take 4 (some .int) 3 := ⟨xin 459 rfl rfl, xin 3 rfl rfl, ⟨by decide, by decide, by decide +kernel⟩, by decide⟩
set_option maxRecDepth 100000 in
theorem lk_L_38 : xlk RL 38 yX3_set := Or.inl (xin 460 rfl rfl)
set_option maxRecDepth 100000 in
theorem im_X3_set : Cond.instanceMethod yX3_set ∈ xws := xin 461 rfl rfl
set_option maxRecDepth 100000 in
theorem se_X3_set : Cond.selects yX3_set.cls yX3_set yX3_set ∈ xws := xin 462 rfl rfl
set_option maxRecDepth 100000 in
theorem cd_X3_set : xcd yX3_set cX3_set 6 (some .int) 4 := ⟨xin 463 rfl rfl, xin 3 rfl rfl, ⟨by decide, by decide, by decide +kernel⟩, by decide⟩
set_option maxRecDepth 100000 in
theorem lk_L_42 : xlk RL 42 yX3_has := Or.inl (xin 464 rfl rfl)
set_option maxRecDepth 100000 in
theorem im_X3_has : Cond.instanceMethod yX3_has ∈ xws := xin 465 rfl rfl
set_option maxRecDepth 100000 in
theorem se_X3_has : Cond.selects yX3_has.cls yX3_has yX3_has ∈ xws := xin 466 rfl rfl
set_option maxRecDepth 100000 in
theorem cd_X3_has : xcd yX3_has cX3_has 4 (some .int) 3 := ⟨xin 467 rfl rfl, xin 3 rfl rfl, ⟨by decide, by decide, by decide +kernel⟩, by decide⟩
set_option maxRecDepth 100000 in
theorem lk_L_47 : xlk RL 47 yX3_at := Or.inl (xin 468 rfl rfl)
set_option maxRecDepth 100000 in
theorem im_X3_at : Cond.instanceMethod yX3_at ∈ xws := xin 469 rfl rfl
set_option maxRecDepth 100000 in
theorem se_X3_at : Cond.selects yX3_at.cls yX3_at yX3_at ∈ xws := xin 470 rfl rfl
set_option maxRecDepth 100000 in
theorem cd_X3_at : xcd yX3_at cX3_at 4 (some .long) 3 := ⟨xin 471 rfl rfl, xin 3 rfl rfl, ⟨by decide, by decide, by decide +kernel⟩, by decide⟩
set_option maxRecDepth 100000 in
theorem lk_L_51 : xlk RL 51 yX3_arc := Or.inl (xin 472 rfl rfl)
set_option maxRecDepth 100000 in
theorem im_X3_arc : Cond.instanceMethod yX3_arc ∈ xws := xin 473 rfl rfl
set_option maxRecDepth 100000 in
theorem se_X3_arc : Cond.selects yX3_arc.cls yX3_arc yX3_arc ∈ xws := xin 474 rfl rfl
set_option maxRecDepth 100000 in
theorem cd_X3_arc : xcd yX3_arc cX3_arc 7 (some .int) 3 := ⟨xin 475 rfl rfl, xin 3 rfl rfl, ⟨by decide, by decide, by decide +kernel⟩, by decide⟩
set_option maxRecDepth 100000 in
theorem lk_L_55 : xlk RL 55 yX3_reach := Or.inl (xin 476 rfl rfl)
set_option maxRecDepth 100000 in
theorem im_X3_reach : Cond.instanceMethod yX3_reach ∈ xws := xin 477 rfl rfl
set_option maxRecDepth 100000 in
theorem se_X3_reach : Cond.selects yX3_reach.cls yX3_reach yX3_reach ∈ xws := xin 478 rfl rfl
set_option maxRecDepth 100000 in
theorem cd_X3_reach : xcd yX3_reach cX3_reach 7 (some .int) 3 := ⟨xin 479 rfl rfl, xin 3 rfl rfl, ⟨by decide, by decide, by decide +kernel⟩, by decide⟩
set_option maxRecDepth 100000 in
theorem lk_L_59 : xlk RL 59 yX3_rows := Or.inl (xin 480 rfl rfl)
set_option maxRecDepth 100000 in
theorem im_X3_rows : Cond.instanceMethod yX3_rows ∈ xws := xin 481 rfl rfl
set_option maxRecDepth 100000 in
theorem se_X3_rows : Cond.selects yX3_rows.cls yX3_rows yX3_rows ∈ xws := xin 482 rfl rfl
set_option maxRecDepth 100000 in
theorem cd_X3_rows : xcd yX3_rows cX3_rows 5 (some .int) 2 := ⟨xin 483 rfl rfl, xin 3 rfl rfl, ⟨by decide, by decide, by decide +kernel⟩, by decide⟩
set_option maxRecDepth 100000 in
theorem lk_X3_117 : xlk RX3 117 yX3_following := Or.inl (xin 484 rfl rfl)
set_option maxRecDepth 100000 in
theorem im_X3_following : Cond.instanceMethod yX3_following ∈ xws := xin 486 rfl rfl
set_option maxRecDepth 100000 in
theorem cd_X3_following : xcd yX3_following cX3_following 2 (some .int) 1 := ⟨xin 487 rfl rfl, xin 3 rfl rfl, ⟨by decide, by decide, by decide +kernel⟩, by decide⟩
set_option maxRecDepth 100000 in
theorem lk_L_63 : xlk RL 63 yX3_row := Or.inl (xin 488 rfl rfl)
set_option maxRecDepth 100000 in
theorem im_X3_row : Cond.instanceMethod yX3_row ∈ xws := xin 489 rfl rfl
set_option maxRecDepth 100000 in
theorem se_X3_row : Cond.selects yX3_row.cls yX3_row yX3_row ∈ xws := xin 490 rfl rfl
set_option maxRecDepth 100000 in
theorem cd_X3_row : xcd yX3_row cX3_row 3 (some .int) 2 := ⟨xin 491 rfl rfl, xin 3 rfl rfl, ⟨by decide, by decide, by decide +kernel⟩, by decide⟩
set_option maxRecDepth 100000 in
theorem lk_L_68 : xlk RL 68 yX3_was := Or.inl (xin 492 rfl rfl)
set_option maxRecDepth 100000 in
theorem im_X3_was : Cond.instanceMethod yX3_was ∈ xws := xin 493 rfl rfl
set_option maxRecDepth 100000 in
theorem se_X3_was : Cond.selects yX3_was.cls yX3_was yX3_was ∈ xws := xin 494 rfl rfl
set_option maxRecDepth 100000 in
theorem cd_X3_was : xcd yX3_was cX3_was 3 (some .long) 2 := ⟨xin 495 rfl rfl, xin 3 rfl rfl, ⟨by decide, by decide, by decide +kernel⟩, by decide⟩
set_option maxRecDepth 100000 in
theorem lk_L_72 : xlk RL 72 yX3_turn := Or.inl (xin 496 rfl rfl)
set_option maxRecDepth 100000 in
theorem im_X3_turn : Cond.instanceMethod yX3_turn ∈ xws := xin 497 rfl rfl
set_option maxRecDepth 100000 in
theorem se_X3_turn : Cond.selects yX3_turn.cls yX3_turn yX3_turn ∈ xws := xin 498 rfl rfl
set_option maxRecDepth 100000 in
theorem cd_X3_turn : xcd yX3_turn cX3_turn 6 (some .int) 1 := ⟨xin 499 rfl rfl, xin 3 rfl rfl, ⟨by decide, by decide, by decide +kernel⟩, by decide⟩
set_option maxRecDepth 100000 in
theorem lk_L_76 : xlk RL 76 yX3_join := Or.inl (xin 500 rfl rfl)
set_option maxRecDepth 100000 in
theorem im_X3_join : Cond.instanceMethod yX3_join ∈ xws := xin 501 rfl rfl
set_option maxRecDepth 100000 in
theorem se_X3_join : Cond.selects yX3_join.cls yX3_join yX3_join ∈ xws := xin 502 rfl rfl
set_option maxRecDepth 100000 in
theorem cd_X3_join : xcd yX3_join cX3_join 9 (some .int) 3 := ⟨xin 503 rfl rfl, xin 3 rfl rfl, ⟨by decide, by decide, by decide +kernel⟩, by decide⟩
set_option maxRecDepth 100000 in
theorem lk_X3_121 : xlk RX3 121 yX3_isConflict := Or.inl (xin 504 rfl rfl)
set_option maxRecDepth 100000 in
theorem im_X3_isConflict : Cond.instanceMethod yX3_isConflict ∈ xws := xin 506 rfl rfl
set_option maxRecDepth 100000 in
theorem cd_X3_isConflict : xcd yX3_isConflict cX3_isConflict 12 (some .boolean) 5 := ⟨xin 507 rfl rfl, xin 3 rfl rfl, ⟨by decide, by decide, by decide +kernel⟩, by decide⟩
set_option maxRecDepth 100000 in
theorem lk_X3_125 : xlk RX3 125 yX3_joined := Or.inl (xin 508 rfl rfl)
set_option maxRecDepth 100000 in
theorem im_X3_joined : Cond.instanceMethod yX3_joined ∈ xws := xin 510 rfl rfl
set_option maxRecDepth 100000 in
theorem cd_X3_joined : xcd yX3_joined cX3_joined 10 (some .long) 5 := ⟨xin 511 rfl rfl, xin 3 rfl rfl, ⟨by decide, by decide, by decide +kernel⟩, by decide⟩
set_option maxRecDepth 100000 in
theorem lk_X3_129 : xlk RX3 129 yX3_isLike := Or.inl (xin 512 rfl rfl)
set_option maxRecDepth 100000 in
theorem im_X3_isLike : Cond.instanceMethod yX3_isLike ∈ xws := xin 514 rfl rfl
set_option maxRecDepth 100000 in
theorem cd_X3_isLike : xcd yX3_isLike cX3_isLike 5 (some .boolean) 2 := ⟨xin 515 rfl rfl, xin 3 rfl rfl, ⟨by decide, by decide, by decide +kernel⟩, by decide⟩
set_option maxRecDepth 100000 in
theorem lk_L_80 : xlk RL 80 yX3_conflict := Or.inl (xin 516 rfl rfl)
set_option maxRecDepth 100000 in
theorem im_X3_conflict : Cond.instanceMethod yX3_conflict ∈ xws := xin 517 rfl rfl
set_option maxRecDepth 100000 in
theorem se_X3_conflict : Cond.selects yX3_conflict.cls yX3_conflict yX3_conflict ∈ xws := xin 518 rfl rfl
set_option maxRecDepth 100000 in
theorem cd_X3_conflict : xcd yX3_conflict cX3_conflict 3 (some .int) 2 := ⟨xin 519 rfl rfl, xin 3 rfl rfl, ⟨by decide, by decide, by decide +kernel⟩, by decide⟩
set_option maxRecDepth 100000 in
theorem lk_L_84 : xlk RL 84 yX3_letGo := Or.inl (xin 520 rfl rfl)
set_option maxRecDepth 100000 in
theorem im_X3_letGo : Cond.instanceMethod yX3_letGo ∈ xws := xin 521 rfl rfl
set_option maxRecDepth 100000 in
theorem se_X3_letGo : Cond.selects yX3_letGo.cls yX3_letGo yX3_letGo ∈ xws := xin 522 rfl rfl
set_option maxRecDepth 100000 in
theorem cd_X3_letGo : xcd yX3_letGo cX3_letGo 4 (some .int) 1 := ⟨xin 523 rfl rfl, xin 3 rfl rfl, ⟨by decide, by decide, by decide +kernel⟩, by decide⟩
set_option maxRecDepth 100000 in
theorem lk_X3_133 : xlk RX3 133 yX3_isHeld := Or.inl (xin 524 rfl rfl)
set_option maxRecDepth 100000 in
theorem im_X3_isHeld : Cond.instanceMethod yX3_isHeld ∈ xws := xin 526 rfl rfl
set_option maxRecDepth 100000 in
theorem cd_X3_isHeld : xcd yX3_isHeld cX3_isHeld 5 (some .boolean) 3 := ⟨xin 527 rfl rfl, xin 3 rfl rfl, ⟨by decide, by decide, by decide +kernel⟩, by decide⟩
set_option maxRecDepth 100000 in
theorem lk_L_88 : xlk RL 88 yX3_chunk := Or.inl (xin 528 rfl rfl)
set_option maxRecDepth 100000 in
theorem im_X3_chunk : Cond.instanceMethod yX3_chunk ∈ xws := xin 529 rfl rfl
set_option maxRecDepth 100000 in
theorem se_X3_chunk : Cond.selects yX3_chunk.cls yX3_chunk yX3_chunk ∈ xws := xin 530 rfl rfl
set_option maxRecDepth 100000 in
theorem cd_X3_chunk : xcd yX3_chunk cX3_chunk 3 (some .int) 2 := ⟨xin 531 rfl rfl, xin 3 rfl rfl, ⟨by decide, by decide, by decide +kernel⟩, by decide⟩
set_option maxRecDepth 100000 in
theorem lk_L_92 : xlk RL 92 yX3_shared := Or.inl (xin 532 rfl rfl)
set_option maxRecDepth 100000 in
theorem im_X3_shared : Cond.instanceMethod yX3_shared ∈ xws := xin 533 rfl rfl
set_option maxRecDepth 100000 in
theorem se_X3_shared : Cond.selects yX3_shared.cls yX3_shared yX3_shared ∈ xws := xin 534 rfl rfl
set_option maxRecDepth 100000 in
theorem cd_X3_shared : xcd yX3_shared cX3_shared 5 (some .int) 2 := ⟨xin 535 rfl rfl, xin 3 rfl rfl, ⟨by decide, by decide, by decide +kernel⟩, by decide⟩
set_option maxRecDepth 100000 in
theorem lk_L_96 : xlk RL 96 yX3_parent := Or.inl (xin 536 rfl rfl)
set_option maxRecDepth 100000 in
theorem im_X3_parent : Cond.instanceMethod yX3_parent ∈ xws := xin 537 rfl rfl
set_option maxRecDepth 100000 in
theorem se_X3_parent : Cond.selects yX3_parent.cls yX3_parent yX3_parent ∈ xws := xin 538 rfl rfl
set_option maxRecDepth 100000 in
theorem cd_X3_parent : xcd yX3_parent cX3_parent 2 (some .int) 1 := ⟨xin 539 rfl rfl, xin 3 rfl rfl, ⟨by decide, by decide, by decide +kernel⟩, by decide⟩
set_option maxRecDepth 100000 in
theorem lk_L_100 : xlk RL 100 yX3_ancestor := Or.inl (xin 540 rfl rfl)
set_option maxRecDepth 100000 in
theorem im_X3_ancestor : Cond.instanceMethod yX3_ancestor ∈ xws := xin 541 rfl rfl
set_option maxRecDepth 100000 in
theorem se_X3_ancestor : Cond.selects yX3_ancestor.cls yX3_ancestor yX3_ancestor ∈ xws := xin 542 rfl rfl
set_option maxRecDepth 100000 in
theorem cd_X3_ancestor : xcd yX3_ancestor cX3_ancestor 5 (some .int) 2 := ⟨xin 543 rfl rfl, xin 3 rfl rfl, ⟨by decide, by decide, by decide +kernel⟩, by decide⟩
set_option maxRecDepth 100000 in
theorem lk_L_104 : xlk RL 104 yX3_time := Or.inl (xin 544 rfl rfl)
set_option maxRecDepth 100000 in
theorem im_X3_time : Cond.instanceMethod yX3_time ∈ xws := xin 545 rfl rfl
set_option maxRecDepth 100000 in
theorem se_X3_time : Cond.selects yX3_time.cls yX3_time yX3_time ∈ xws := xin 546 rfl rfl
set_option maxRecDepth 100000 in
theorem cd_X3_time : xcd yX3_time cX3_time 3 (some .int) 1 := ⟨xin 547 rfl rfl, xin 3 rfl rfl, ⟨by decide, by decide, by decide +kernel⟩, by decide⟩
set_option maxRecDepth 100000 in
theorem lk_L_108 : xlk RL 108 yX3_count := Or.inl (xin 548 rfl rfl)
set_option maxRecDepth 100000 in
theorem im_X3_count : Cond.instanceMethod yX3_count ∈ xws := xin 549 rfl rfl
set_option maxRecDepth 100000 in
theorem se_X3_count : Cond.selects yX3_count.cls yX3_count yX3_count ∈ xws := xin 550 rfl rfl
set_option maxRecDepth 100000 in
theorem cd_X3_count : xcd yX3_count cX3_count 8 (some .int) 1 := ⟨xin 551 rfl rfl, xin 3 rfl rfl, ⟨by decide, by decide, by decide +kernel⟩, by decide⟩
set_option maxRecDepth 100000 in
theorem kl_L_32 : Cond.constantLong RL 32 (4294967295) ∈ xws := xin 552 rfl rfl
set_option maxRecDepth 100000 in
theorem se_X0_clear : Cond.selects yX0_clear.cls yX0_clear yX0_clear ∈ xws := xsel 0 3 rfl
set_option maxRecDepth 100000 in
theorem se_X2_makeFirst : Cond.selects yX2_makeFirst.cls yX2_makeFirst yX2_makeFirst ∈ xws := xsel 1 13 rfl
set_option maxRecDepth 100000 in
theorem se_X2_takeRoom : Cond.selects yX2_takeRoom.cls yX2_takeRoom yX2_takeRoom ∈ xws := xsel 2 13 rfl
set_option maxRecDepth 100000 in
theorem se_X2_nextChunk : Cond.selects yX2_nextChunk.cls yX2_nextChunk yX2_nextChunk ∈ xws := xsel 3 13 rfl
set_option maxRecDepth 100000 in
theorem se_X2_changeArc : Cond.selects yX2_changeArc.cls yX2_changeArc yX2_changeArc ∈ xws := xsel 4 13 rfl
set_option maxRecDepth 100000 in
theorem se_X2_living : Cond.selects yX2_living.cls yX2_living yX2_living ∈ xws := xsel 5 13 rfl
set_option maxRecDepth 100000 in
theorem se_X2_everMade : Cond.selects yX2_everMade.cls yX2_everMade yX2_everMade ∈ xws := xsel 6 13 rfl
set_option maxRecDepth 100000 in
theorem se_X2_isNode : Cond.selects yX2_isNode.cls yX2_isNode yX2_isNode ∈ xws := xsel 7 13 rfl
set_option maxRecDepth 100000 in
theorem se_X1_leads : Cond.selects yX1_leads.cls yX1_leads yX1_leads ∈ xws := xsel 8 7 rfl
set_option maxRecDepth 100000 in
theorem se_X2_makeFrom : Cond.selects yX2_makeFrom.cls yX2_makeFrom yX2_makeFrom ∈ xws := xsel 9 13 rfl
set_option maxRecDepth 100000 in
theorem se_X1_copyItems : Cond.selects yX1_copyItems.cls yX1_copyItems yX1_copyItems ∈ xws := xsel 10 7 rfl
set_option maxRecDepth 100000 in
theorem se_X2_chunkOfNode : Cond.selects yX2_chunkOfNode.cls yX2_chunkOfNode yX2_chunkOfNode ∈ xws := xsel 11 13 rfl
set_option maxRecDepth 100000 in
theorem se_X1_numberAt : Cond.selects yX1_numberAt.cls yX1_numberAt yX1_numberAt ∈ xws := xsel 12 7 rfl
set_option maxRecDepth 100000 in
theorem se_X2_ledToFrom : Cond.selects yX2_ledToFrom.cls yX2_ledToFrom yX2_ledToFrom ∈ xws := xsel 13 13 rfl
set_option maxRecDepth 100000 in
theorem se_X0_addArcs : Cond.selects yX0_addArcs.cls yX0_addArcs yX0_addArcs ∈ xws := xsel 14 3 rfl
set_option maxRecDepth 100000 in
theorem se_X0_addColumn : Cond.selects yX0_addColumn.cls yX0_addColumn yX0_addColumn ∈ xws := xsel 15 3 rfl
set_option maxRecDepth 100000 in
theorem se_X0_find : Cond.selects yX0_find.cls yX0_find yX0_find ∈ xws := xsel 16 3 rfl
set_option maxRecDepth 100000 in
theorem se_X2_canTurn : Cond.selects yX2_canTurn.cls yX2_canTurn yX2_canTurn ∈ xws := xsel 17 13 rfl
set_option maxRecDepth 100000 in
theorem se_X2_turnItems : Cond.selects yX2_turnItems.cls yX2_turnItems yX2_turnItems ∈ xws := xsel 18 13 rfl
set_option maxRecDepth 100000 in
theorem se_X2_isChunkAlike : Cond.selects yX2_isChunkAlike.cls yX2_isChunkAlike yX2_isChunkAlike ∈ xws := xsel 19 13 rfl
set_option maxRecDepth 100000 in
theorem se_X2_hasConflict : Cond.selects yX2_hasConflict.cls yX2_hasConflict yX2_hasConflict ∈ xws := xsel 20 13 rfl
set_option maxRecDepth 100000 in
theorem se_X2_tellConflicts : Cond.selects yX2_tellConflicts.cls yX2_tellConflicts yX2_tellConflicts ∈ xws := xsel 21 13 rfl
set_option maxRecDepth 100000 in
theorem se_X2_joinItems : Cond.selects yX2_joinItems.cls yX2_joinItems yX2_joinItems ∈ xws := xsel 22 13 rfl
set_option maxRecDepth 100000 in
theorem se_X2_chooseJoinedChunk : Cond.selects yX2_chooseJoinedChunk.cls yX2_chooseJoinedChunk yX2_chooseJoinedChunk ∈ xws := xsel 23 13 rfl
set_option maxRecDepth 100000 in
theorem se_X2_isChunkHeld : Cond.selects yX2_isChunkHeld.cls yX2_isChunkHeld yX2_isChunkHeld ∈ xws := xsel 24 13 rfl
set_option maxRecDepth 100000 in
theorem se_X2_parentOf : Cond.selects yX2_parentOf.cls yX2_parentOf yX2_parentOf ∈ xws := xsel 25 13 rfl
set_option maxRecDepth 100000 in
theorem se_X3_isVersion : Cond.selects yX3_isVersion.cls yX3_isVersion yX3_isVersion ∈ xws := xsel 26 22 rfl
set_option maxRecDepth 100000 in
theorem se_X3_isNode : Cond.selects yX3_isNode.cls yX3_isNode yX3_isNode ∈ xws := xsel 27 22 rfl
set_option maxRecDepth 100000 in
theorem se_X3_item : Cond.selects yX3_item.cls yX3_item yX3_item ∈ xws := xsel 28 22 rfl
set_option maxRecDepth 100000 in
theorem se_X3_changes : Cond.selects yX3_changes.cls yX3_changes yX3_changes ∈ xws := xsel 29 22 rfl
set_option maxRecDepth 100000 in
theorem se_X3_copies : Cond.selects yX3_copies.cls yX3_copies yX3_copies ∈ xws := xsel 30 22 rfl
set_option maxRecDepth 100000 in
theorem se_X3_sets : Cond.selects yX3_sets.cls yX3_sets yX3_sets ∈ xws := xsel 31 22 rfl
set_option maxRecDepth 100000 in
theorem se_X3_fresh : Cond.selects yX3_fresh.cls yX3_fresh yX3_fresh ∈ xws := xsel 32 22 rfl
set_option maxRecDepth 100000 in
theorem se_X3_made : Cond.selects yX3_made.cls yX3_made yX3_made ∈ xws := xsel 33 22 rfl
set_option maxRecDepth 100000 in
theorem se_X3_following : Cond.selects yX3_following.cls yX3_following yX3_following ∈ xws := xsel 34 22 rfl
set_option maxRecDepth 100000 in
theorem se_X3_isConflict : Cond.selects yX3_isConflict.cls yX3_isConflict yX3_isConflict ∈ xws := xsel 35 22 rfl
set_option maxRecDepth 100000 in
theorem se_X3_joined : Cond.selects yX3_joined.cls yX3_joined yX3_joined ∈ xws := xsel 36 22 rfl
set_option maxRecDepth 100000 in
theorem se_X3_isLike : Cond.selects yX3_isLike.cls yX3_isLike yX3_isLike ∈ xws := xsel 37 22 rfl
set_option maxRecDepth 100000 in
theorem se_X3_isHeld : Cond.selects yX3_isHeld.cls yX3_isHeld yX3_isHeld ∈ xws := xsel 38 22 rfl
theorem vcX0 : ∃ T nn, vwCl[0]? = some (RX0, T, nn) := ⟨_, _, rfl⟩
theorem vcX1 : ∃ T nn, vwCl[1]? = some (RX1, T, nn) := ⟨_, _, rfl⟩
theorem vcX2 : ∃ T nn, vwCl[2]? = some (RX2, T, nn) := ⟨_, _, rfl⟩
theorem vcX3 : ∃ T nn, vwCl[3]? = some (RX3, T, nn) := ⟨_, _, rfl⟩
