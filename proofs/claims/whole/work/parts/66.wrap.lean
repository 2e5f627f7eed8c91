/-! ===== the wrapped calls ===== -/
section Wrap
variable {l : Launch} {G : GG} {S S' : PS} {tg : TG} {W : WT} {A : AS} {t out : Nat}
set_option maxRecDepth 100000 in
theorem w_addBook (hl : l.stackTraces = false) (h : CL G S tg W A t) (ho : OU S out) :
    MTw l G S yL_addBook cL_addBook 3 (some .int) [(0, 8, 11, 13)] (rmW 7 180) [va_rf (some t), va_rf (some out)] (EW G S tg t out (oAddBook A)) := by
  refine MTw_of (by decide +kernel) hl rfl (Nat.le_of_ble_eq_true rfl) (fun Z hC hzl hnm hT hQ => ?_)
  change J G Z S 0 0 0 [some (va_rf (some t)), some (va_rf (some out)), none] []
  have hzs : (zl Z).stackTraces = false := by rw [hzl]; exact hl
  refine r_aload_n hC dL_addBook_0 rfl rfl ?_
  refine r_iconst (v := nI 0) hC dL_addBook_1 (by decide) ?_
  refine r_aload_n hC dL_addBook_2 rfl rfl ?_
  refine r_cV (as := []) hC (c_addBook hzs h) cs_X7_addBook q_237 q_238 q_239 (h.kt) (by decide) rfl dL_addBook_3 rfl rfl ⟨Nat.le_of_ble_eq_true rfl, Nat.le_of_ble_eq_true rfl⟩ (Nat.le_of_ble_eq_true rfl) ⟨Nat.le_of_ble_eq_true rfl, Nat.le_of_ble_eq_true rfl⟩ (fun v3 S3 p3 => ?_) (fun E3 x3 => ?_)
  · have hp := p3
    obtain ⟨e0, rfl, tg', W', h1, h2⟩ := p3
    have ho2 := ho.frC h2
    refine r_i2l hC dL_addBook_6 ?_
    refine r_last hC dL_addBook_7 (ho2.1) (rfl) (by rw [ho2.2]; decide) (by rw [ho2.2]; decide) ?_
    refine r_goto (tgt := 14) hC dL_addBook_8 (by decide) ?_
    refine r_iconst (v := nI 0) hC dL_addBook_14 (by decide) ?_
    refine r_iret hC hQ rfl dL_addBook_15 (Nat.le_of_ble_eq_true rfl) (Nat.le_of_ble_eq_true rfl) ?_
    exact EW.ok hp rfl
  · obtain ⟨k, ek, hk⟩ := x3
    rcases k with _ | k
    · obtain rfl : eIS = E3 := Option.some.inj hk
      refine r_catch hC hT (name := eIS) [] ⟨0, 8, 11, 13⟩ [] rfl (fun z hz => ?_) rfl (by decide) q_236 q_243 (fun q => ?_)
      · exact absurd hz List.not_mem_nil
      · refine r_astore_n hC dL_addBook_11 rfl (by decide) ?_
        refine r_iconst (v := nI 1) hC dL_addBook_12 (by decide) ?_
        refine r_iret hC hQ rfl dL_addBook_13 (Nat.le_of_ble_eq_true rfl) (Nat.le_of_ble_eq_true rfl) ?_
        exact EW.thr h ek
    · exact absurd hk (by simp)
set_option maxRecDepth 100000 in
theorem w_draw (hl : l.stackTraces = false) (h : CL G S tg W A t) (ho : OU S out) (b a p m c : Int32) :
    MTw l G S yL_draw cL_draw 8 (some .int) [(0, 16, 19, 19), (0, 16, 23, 21), (0, 16, 27, 13)] (rmW 5 30) [va_rf (some t), .int b, .int a, .int p, .int m, .int c, va_rf (some out)] (EW G S tg t out (oDraw A b a p m c)) := by
  refine MTw_of (by decide +kernel) hl rfl (Nat.le_of_ble_eq_true rfl) (fun Z hC hzl hnm hT hQ => ?_)
  change J G Z S 0 0 0 [some (va_rf (some t)), some (.int b), some (.int a), some (.int p), some (.int m), some (.int c), some (va_rf (some out)), none] []
  have hzs : (zl Z).stackTraces = false := by rw [hzl]; exact hl
  refine r_aload hC dL_draw_0 rfl ?_
  refine r_iconst (v := nI 0) hC dL_draw_2 (by decide) ?_
  refine r_aload_n hC dL_draw_3 rfl rfl ?_
  refine r_iload_n hC dL_draw_4 rfl rfl ?_
  refine r_iload_n hC dL_draw_5 rfl rfl ?_
  refine r_iload_n hC dL_draw_6 rfl rfl ?_
  refine r_iload hC dL_draw_7 rfl ?_
  refine r_iload hC dL_draw_9 rfl ?_
  refine r_cV (as := [.int b, .int a, .int p, .int m, .int c]) hC (c_draw hzs h b a p m c) cs_X7_draw q_404 q_405 q_406 (h.kt) (by decide) rfl dL_draw_11 rfl rfl ⟨Nat.le_of_ble_eq_true rfl, Nat.le_of_ble_eq_true rfl⟩ (Nat.le_of_ble_eq_true rfl) ⟨Nat.le_of_ble_eq_true rfl, Nat.le_of_ble_eq_true rfl⟩ (fun v11 S11 p11 => ?_) (fun E11 x11 => ?_)
  · have hp := p11
    obtain ⟨e0, rfl, tg', W', h1, h2⟩ := p11
    have ho2 := ho.frC h2
    refine r_i2l hC dL_draw_14 ?_
    refine r_last hC dL_draw_15 (ho2.1) (rfl) (by rw [ho2.2]; decide) (by rw [ho2.2]; decide) ?_
    refine r_goto (tgt := 31) hC dL_draw_16 (by decide) ?_
    refine r_iconst (v := nI 0) hC dL_draw_31 (by decide) ?_
    refine r_iret hC hQ rfl dL_draw_32 (Nat.le_of_ble_eq_true rfl) (Nat.le_of_ble_eq_true rfl) ?_
    exact EW.ok hp rfl
  · obtain ⟨k, ek, hk⟩ := x11
    rcases k with _ | _ | _ | k
    · obtain rfl : eIO = E11 := Option.some.inj hk
      refine r_catch hC hT (name := eIO) [] ⟨0, 16, 19, 19⟩ [⟨0, 16, 23, 21⟩, ⟨0, 16, 27, 13⟩] rfl (fun z hz => ?_) rfl (by decide) q_402 q_417 (fun q => ?_)
      · exact absurd hz List.not_mem_nil
      · refine r_astore hC dL_draw_19 (by decide) ?_
        refine r_iconst (v := nI 1) hC dL_draw_21 (by decide) ?_
        refine r_iret hC hQ rfl dL_draw_22 (Nat.le_of_ble_eq_true rfl) (Nat.le_of_ble_eq_true rfl) ?_
        exact EW.thr h ek
    · obtain rfl : eIA = E11 := Option.some.inj hk
      refine r_catch hC hT (name := eIA) [⟨0, 16, 19, 19⟩] ⟨0, 16, 23, 21⟩ [⟨0, 16, 27, 13⟩] rfl (fun z hz => ?_) rfl (by decide) q_403 q_437 (fun q => ?_)
      · rcases List.mem_cons.mp hz with rfl | hz
        · exact Or.inr ⟨by decide, eIO, q_402, hC.ks.2.2.2.2.2.2.2.2.1 (eIA, eIO) (by decide)⟩
        exact absurd hz List.not_mem_nil
      · refine r_astore hC dL_draw_23 (by decide) ?_
        refine r_iconst (v := nI 2) hC dL_draw_25 (by decide) ?_
        refine r_iret hC hQ rfl dL_draw_26 (Nat.le_of_ble_eq_true rfl) (Nat.le_of_ble_eq_true rfl) ?_
        exact EW.thr h ek
    · obtain rfl : eIS = E11 := Option.some.inj hk
      refine r_catch hC hT (name := eIS) [⟨0, 16, 19, 19⟩, ⟨0, 16, 23, 21⟩] ⟨0, 16, 27, 13⟩ [] rfl (fun z hz => ?_) rfl (by decide) q_236 q_243 (fun q => ?_)
      · rcases List.mem_cons.mp hz with rfl | hz
        · exact Or.inr ⟨by decide, eIO, q_402, hC.ks.2.2.2.2.2.2.2.2.1 (eIS, eIO) (by decide)⟩
        rcases List.mem_cons.mp hz with rfl | hz
        · exact Or.inr ⟨by decide, eIA, q_403, hC.ks.2.2.2.2.2.2.2.2.1 (eIS, eIA) (by decide)⟩
        exact absurd hz List.not_mem_nil
      · refine r_astore hC dL_draw_27 (by decide) ?_
        refine r_iconst (v := nI 3) hC dL_draw_29 (by decide) ?_
        refine r_iret hC hQ rfl dL_draw_30 (Nat.le_of_ble_eq_true rfl) (Nat.le_of_ble_eq_true rfl) ?_
        exact EW.thr h ek
    · exact absurd hk (by simp)
set_option maxRecDepth 100000 in
theorem w_erase (hl : l.stackTraces = false) (h : CL G S tg W A t) (ho : OU S out) (b a : Int32) :
    MTw l G S yL_erase cL_erase 5 (some .int) [(0, 10, 13, 19)] (rmW 2 12) [va_rf (some t), .int b, .int a, va_rf (some out)] (EW G S tg t out (oErase A b a)) := by
  refine MTw_of (by decide +kernel) hl rfl (Nat.le_of_ble_eq_true rfl) (fun Z hC hzl hnm hT hQ => ?_)
  change J G Z S 0 0 0 [some (va_rf (some t)), some (.int b), some (.int a), some (va_rf (some out)), none] []
  have hzs : (zl Z).stackTraces = false := by rw [hzl]; exact hl
  refine r_aload_n hC dL_erase_0 rfl rfl ?_
  refine r_iconst (v := nI 0) hC dL_erase_1 (by decide) ?_
  refine r_aload_n hC dL_erase_2 rfl rfl ?_
  refine r_iload_n hC dL_erase_3 rfl rfl ?_
  refine r_iload_n hC dL_erase_4 rfl rfl ?_
  refine r_cV (as := [.int b, .int a]) hC (c_erase hzs h b a) cs_X7_erase q_504 q_505 q_506 (h.kt) (by decide) rfl dL_erase_5 rfl rfl ⟨Nat.le_of_ble_eq_true rfl, Nat.le_of_ble_eq_true rfl⟩ (Nat.le_of_ble_eq_true rfl) ⟨Nat.le_of_ble_eq_true rfl, Nat.le_of_ble_eq_true rfl⟩ (fun v5 S5 p5 => ?_) (fun E5 x5 => ?_)
  · have hp := p5
    obtain ⟨e0, rfl, tg', W', h1, h2⟩ := p5
    have ho2 := ho.frC h2
    refine r_i2l hC dL_erase_8 ?_
    refine r_last hC dL_erase_9 (ho2.1) (rfl) (by rw [ho2.2]; decide) (by rw [ho2.2]; decide) ?_
    refine r_goto (tgt := 17) hC dL_erase_10 (by decide) ?_
    refine r_iconst (v := nI 0) hC dL_erase_17 (by decide) ?_
    refine r_iret hC hQ rfl dL_erase_18 (Nat.le_of_ble_eq_true rfl) (Nat.le_of_ble_eq_true rfl) ?_
    exact EW.ok hp rfl
  · obtain ⟨k, ek, hk⟩ := x5
    rcases k with _ | k
    · obtain rfl : eIO = E5 := Option.some.inj hk
      refine r_catch hC hT (name := eIO) [] ⟨0, 10, 13, 19⟩ [] rfl (fun z hz => ?_) rfl (by decide) q_402 q_417 (fun q => ?_)
      · exact absurd hz List.not_mem_nil
      · refine r_astore hC dL_erase_13 (by decide) ?_
        refine r_iconst (v := nI 1) hC dL_erase_15 (by decide) ?_
        refine r_iret hC hQ rfl dL_erase_16 (Nat.le_of_ble_eq_true rfl) (Nat.le_of_ble_eq_true rfl) ?_
        exact EW.thr h ek
    · exact absurd hk (by simp)
set_option maxRecDepth 100000 in
theorem w_move (hl : l.stackTraces = false) (h : CL G S tg W A t) (ho : OU S out) (b a p : Int32) :
    MTw l G S yL_move cL_move 6 (some .int) [(0, 12, 15, 19), (0, 12, 19, 21)] (rmW 3 18) [va_rf (some t), .int b, .int a, .int p, va_rf (some out)] (EW G S tg t out (oMove A b a p)) := by
  refine MTw_of (by decide +kernel) hl rfl (Nat.le_of_ble_eq_true rfl) (fun Z hC hzl hnm hT hQ => ?_)
  change J G Z S 0 0 0 [some (va_rf (some t)), some (.int b), some (.int a), some (.int p), some (va_rf (some out)), none] []
  have hzs : (zl Z).stackTraces = false := by rw [hzl]; exact hl
  refine r_aload hC dL_move_0 rfl ?_
  refine r_iconst (v := nI 0) hC dL_move_2 (by decide) ?_
  refine r_aload_n hC dL_move_3 rfl rfl ?_
  refine r_iload_n hC dL_move_4 rfl rfl ?_
  refine r_iload_n hC dL_move_5 rfl rfl ?_
  refine r_iload_n hC dL_move_6 rfl rfl ?_
  refine r_cV (as := [.int b, .int a, .int p]) hC (c_move hzs h b a p) cs_X7_move q_515 q_516 q_517 (h.kt) (by decide) rfl dL_move_7 rfl rfl ⟨Nat.le_of_ble_eq_true rfl, Nat.le_of_ble_eq_true rfl⟩ (Nat.le_of_ble_eq_true rfl) ⟨Nat.le_of_ble_eq_true rfl, Nat.le_of_ble_eq_true rfl⟩ (fun v7 S7 p7 => ?_) (fun E7 x7 => ?_)
  · have hp := p7
    obtain ⟨e0, rfl, tg', W', h1, h2⟩ := p7
    have ho2 := ho.frC h2
    refine r_i2l hC dL_move_10 ?_
    refine r_last hC dL_move_11 (ho2.1) (rfl) (by rw [ho2.2]; decide) (by rw [ho2.2]; decide) ?_
    refine r_goto (tgt := 23) hC dL_move_12 (by decide) ?_
    refine r_iconst (v := nI 0) hC dL_move_23 (by decide) ?_
    refine r_iret hC hQ rfl dL_move_24 (Nat.le_of_ble_eq_true rfl) (Nat.le_of_ble_eq_true rfl) ?_
    exact EW.ok hp rfl
  · obtain ⟨k, ek, hk⟩ := x7
    rcases k with _ | _ | k
    · obtain rfl : eIO = E7 := Option.some.inj hk
      refine r_catch hC hT (name := eIO) [] ⟨0, 12, 15, 19⟩ [⟨0, 12, 19, 21⟩] rfl (fun z hz => ?_) rfl (by decide) q_402 q_417 (fun q => ?_)
      · exact absurd hz List.not_mem_nil
      · refine r_astore hC dL_move_15 (by decide) ?_
        refine r_iconst (v := nI 1) hC dL_move_17 (by decide) ?_
        refine r_iret hC hQ rfl dL_move_18 (Nat.le_of_ble_eq_true rfl) (Nat.le_of_ble_eq_true rfl) ?_
        exact EW.thr h ek
    · obtain rfl : eIA = E7 := Option.some.inj hk
      refine r_catch hC hT (name := eIA) [⟨0, 12, 15, 19⟩] ⟨0, 12, 19, 21⟩ [] rfl (fun z hz => ?_) rfl (by decide) q_403 q_437 (fun q => ?_)
      · rcases List.mem_cons.mp hz with rfl | hz
        · exact Or.inr ⟨by decide, eIO, q_402, hC.ks.2.2.2.2.2.2.2.2.1 (eIA, eIO) (by decide)⟩
        exact absurd hz List.not_mem_nil
      · refine r_astore hC dL_move_19 (by decide) ?_
        refine r_iconst (v := nI 2) hC dL_move_21 (by decide) ?_
        refine r_iret hC hQ rfl dL_move_22 (Nat.le_of_ble_eq_true rfl) (Nat.le_of_ble_eq_true rfl) ?_
        exact EW.thr h ek
    · exact absurd hk (by simp)
set_option maxRecDepth 100000 in
theorem w_frames (hl : l.stackTraces = false) (h : CL G S tg W A t) (ho : OU S out) (b : Int32) :
    MTw l G S yL_frames cL_frames 4 (some .int) [(0, 9, 12, 19)] (rmW 1 6) [va_rf (some t), .int b, va_rf (some out)] (EW G S tg t out (oFrames A b)) := by
  refine MTw_of (by decide +kernel) hl rfl (Nat.le_of_ble_eq_true rfl) (fun Z hC hzl hnm hT hQ => ?_)
  change J G Z S 0 0 0 [some (va_rf (some t)), some (.int b), some (va_rf (some out)), none] []
  have hzs : (zl Z).stackTraces = false := by rw [hzl]; exact hl
  refine r_aload_n hC dL_frames_0 rfl rfl ?_
  refine r_iconst (v := nI 0) hC dL_frames_1 (by decide) ?_
  refine r_aload_n hC dL_frames_2 rfl rfl ?_
  refine r_iload_n hC dL_frames_3 rfl rfl ?_
  refine r_cV (as := [.int b]) hC (c_frames hzs h b) cs_X7_frames q_526 q_527 q_528 (h.kt) (by decide) rfl dL_frames_4 rfl rfl ⟨Nat.le_of_ble_eq_true rfl, Nat.le_of_ble_eq_true rfl⟩ (Nat.le_of_ble_eq_true rfl) ⟨Nat.le_of_ble_eq_true rfl, Nat.le_of_ble_eq_true rfl⟩ (fun v4 S4 p4 => ?_) (fun E4 x4 => ?_)
  · have hp := p4
    obtain ⟨e0, rfl, tg', W', h1, h2⟩ := p4
    have ho2 := ho.frC h2
    refine r_i2l hC dL_frames_7 ?_
    refine r_last hC dL_frames_8 (ho2.1) (rfl) (by rw [ho2.2]; decide) (by rw [ho2.2]; decide) ?_
    refine r_goto (tgt := 15) hC dL_frames_9 (by decide) ?_
    refine r_iconst (v := nI 0) hC dL_frames_15 (by decide) ?_
    refine r_iret hC hQ rfl dL_frames_16 (Nat.le_of_ble_eq_true rfl) (Nat.le_of_ble_eq_true rfl) ?_
    exact EW.ok hp rfl
  · obtain ⟨k, ek, hk⟩ := x4
    rcases k with _ | k
    · obtain rfl : eIO = E4 := Option.some.inj hk
      refine r_catch hC hT (name := eIO) [] ⟨0, 9, 12, 19⟩ [] rfl (fun z hz => ?_) rfl (by decide) q_402 q_417 (fun q => ?_)
      · exact absurd hz List.not_mem_nil
      · refine r_astore_n hC dL_frames_12 rfl (by decide) ?_
        refine r_iconst (v := nI 1) hC dL_frames_13 (by decide) ?_
        refine r_iret hC hQ rfl dL_frames_14 (Nat.le_of_ble_eq_true rfl) (Nat.le_of_ble_eq_true rfl) ?_
        exact EW.thr h ek
    · exact absurd hk (by simp)
set_option maxRecDepth 100000 in
theorem w_frameAt (hl : l.stackTraces = false) (h : CL G S tg W A t) (ho : OU S out) (b f : Int32) :
    MTw l G S yL_frameAt cL_frameAt 5 (some .int) [(0, 10, 13, 19)] (rmW 2 12) [va_rf (some t), .int b, .int f, va_rf (some out)] (EW G S tg t out (oFrameAt A b f)) := by
  refine MTw_of (by decide +kernel) hl rfl (Nat.le_of_ble_eq_true rfl) (fun Z hC hzl hnm hT hQ => ?_)
  change J G Z S 0 0 0 [some (va_rf (some t)), some (.int b), some (.int f), some (va_rf (some out)), none] []
  have hzs : (zl Z).stackTraces = false := by rw [hzl]; exact hl
  refine r_aload_n hC dL_frameAt_0 rfl rfl ?_
  refine r_iconst (v := nI 0) hC dL_frameAt_1 (by decide) ?_
  refine r_aload_n hC dL_frameAt_2 rfl rfl ?_
  refine r_iload_n hC dL_frameAt_3 rfl rfl ?_
  refine r_iload_n hC dL_frameAt_4 rfl rfl ?_
  refine r_cV (as := [.int b, .int f]) hC (c_frameAt hzs h b f) cs_X7_frameAt q_533 q_534 q_535 (h.kt) (by decide) rfl dL_frameAt_5 rfl rfl ⟨Nat.le_of_ble_eq_true rfl, Nat.le_of_ble_eq_true rfl⟩ (Nat.le_of_ble_eq_true rfl) ⟨Nat.le_of_ble_eq_true rfl, Nat.le_of_ble_eq_true rfl⟩ (fun v5 S5 p5 => ?_) (fun E5 x5 => ?_)
  · have hp := p5
    obtain ⟨e0, rfl, tg', W', h1, h2⟩ := p5
    have ho2 := ho.frC h2
    refine r_i2l hC dL_frameAt_8 ?_
    refine r_last hC dL_frameAt_9 (ho2.1) (rfl) (by rw [ho2.2]; decide) (by rw [ho2.2]; decide) ?_
    refine r_goto (tgt := 17) hC dL_frameAt_10 (by decide) ?_
    refine r_iconst (v := nI 0) hC dL_frameAt_17 (by decide) ?_
    refine r_iret hC hQ rfl dL_frameAt_18 (Nat.le_of_ble_eq_true rfl) (Nat.le_of_ble_eq_true rfl) ?_
    exact EW.ok hp rfl
  · obtain ⟨k, ek, hk⟩ := x5
    rcases k with _ | k
    · obtain rfl : eIO = E5 := Option.some.inj hk
      refine r_catch hC hT (name := eIO) [] ⟨0, 10, 13, 19⟩ [] rfl (fun z hz => ?_) rfl (by decide) q_402 q_417 (fun q => ?_)
      · exact absurd hz List.not_mem_nil
      · refine r_astore hC dL_frameAt_13 (by decide) ?_
        refine r_iconst (v := nI 1) hC dL_frameAt_15 (by decide) ?_
        refine r_iret hC hQ rfl dL_frameAt_16 (Nat.le_of_ble_eq_true rfl) (Nat.le_of_ble_eq_true rfl) ?_
        exact EW.thr h ek
    · exact absurd hk (by simp)
set_option maxRecDepth 100000 in
theorem w_order (hl : l.stackTraces = false) (h : CL G S tg W A t) (ho : OU S out) (b c : Int32) :
    MTw l G S yL_order cL_order 5 (some .int) [(0, 10, 13, 19), (0, 10, 17, 21), (0, 10, 21, 13)] (rmW 14 630) [va_rf (some t), .int b, .int c, va_rf (some out)] (EW G S tg t out (oOrder A b c)) := by
  refine MTw_of (by decide +kernel) hl rfl (Nat.le_of_ble_eq_true rfl) (fun Z hC hzl hnm hT hQ => ?_)
  change J G Z S 0 0 0 [some (va_rf (some t)), some (.int b), some (.int c), some (va_rf (some out)), none] []
  have hzs : (zl Z).stackTraces = false := by rw [hzl]; exact hl
  refine r_aload_n hC dL_order_0 rfl rfl ?_
  refine r_iconst (v := nI 0) hC dL_order_1 (by decide) ?_
  refine r_aload_n hC dL_order_2 rfl rfl ?_
  refine r_iload_n hC dL_order_3 rfl rfl ?_
  refine r_iload_n hC dL_order_4 rfl rfl ?_
  refine r_cV (as := [.int b, .int c]) hC (c_order hzs h b c) cs_X7_order q_541 q_542 q_543 (h.kt) (by decide) rfl dL_order_5 rfl rfl ⟨Nat.le_of_ble_eq_true rfl, Nat.le_of_ble_eq_true rfl⟩ (Nat.le_of_ble_eq_true rfl) ⟨Nat.le_of_ble_eq_true rfl, Nat.le_of_ble_eq_true rfl⟩ (fun v5 S5 p5 => ?_) (fun E5 x5 => ?_)
  · have hp := p5
    obtain ⟨e0, rfl, tg', W', h1, h2⟩ := p5
    have ho2 := ho.frC h2
    refine r_i2l hC dL_order_8 ?_
    refine r_last hC dL_order_9 (ho2.1) (rfl) (by rw [ho2.2]; decide) (by rw [ho2.2]; decide) ?_
    refine r_goto (tgt := 25) hC dL_order_10 (by decide) ?_
    refine r_iconst (v := nI 0) hC dL_order_25 (by decide) ?_
    refine r_iret hC hQ rfl dL_order_26 (Nat.le_of_ble_eq_true rfl) (Nat.le_of_ble_eq_true rfl) ?_
    exact EW.ok hp rfl
  · obtain ⟨k, ek, hk⟩ := x5
    rcases k with _ | _ | _ | k
    · obtain rfl : eIO = E5 := Option.some.inj hk
      refine r_catch hC hT (name := eIO) [] ⟨0, 10, 13, 19⟩ [⟨0, 10, 17, 21⟩, ⟨0, 10, 21, 13⟩] rfl (fun z hz => ?_) rfl (by decide) q_402 q_417 (fun q => ?_)
      · exact absurd hz List.not_mem_nil
      · refine r_astore hC dL_order_13 (by decide) ?_
        refine r_iconst (v := nI 1) hC dL_order_15 (by decide) ?_
        refine r_iret hC hQ rfl dL_order_16 (Nat.le_of_ble_eq_true rfl) (Nat.le_of_ble_eq_true rfl) ?_
        exact EW.thr h ek
    · obtain rfl : eIA = E5 := Option.some.inj hk
      refine r_catch hC hT (name := eIA) [⟨0, 10, 13, 19⟩] ⟨0, 10, 17, 21⟩ [⟨0, 10, 21, 13⟩] rfl (fun z hz => ?_) rfl (by decide) q_403 q_437 (fun q => ?_)
      · rcases List.mem_cons.mp hz with rfl | hz
        · exact Or.inr ⟨by decide, eIO, q_402, hC.ks.2.2.2.2.2.2.2.2.1 (eIA, eIO) (by decide)⟩
        exact absurd hz List.not_mem_nil
      · refine r_astore hC dL_order_17 (by decide) ?_
        refine r_iconst (v := nI 2) hC dL_order_19 (by decide) ?_
        refine r_iret hC hQ rfl dL_order_20 (Nat.le_of_ble_eq_true rfl) (Nat.le_of_ble_eq_true rfl) ?_
        exact EW.thr h ek
    · obtain rfl : eIS = E5 := Option.some.inj hk
      refine r_catch hC hT (name := eIS) [⟨0, 10, 13, 19⟩, ⟨0, 10, 17, 21⟩] ⟨0, 10, 21, 13⟩ [] rfl (fun z hz => ?_) rfl (by decide) q_236 q_243 (fun q => ?_)
      · rcases List.mem_cons.mp hz with rfl | hz
        · exact Or.inr ⟨by decide, eIO, q_402, hC.ks.2.2.2.2.2.2.2.2.1 (eIS, eIO) (by decide)⟩
        rcases List.mem_cons.mp hz with rfl | hz
        · exact Or.inr ⟨by decide, eIA, q_403, hC.ks.2.2.2.2.2.2.2.2.1 (eIS, eIA) (by decide)⟩
        exact absurd hz List.not_mem_nil
      · refine r_astore hC dL_order_21 (by decide) ?_
        refine r_iconst (v := nI 3) hC dL_order_23 (by decide) ?_
        refine r_iret hC hQ rfl dL_order_24 (Nat.le_of_ble_eq_true rfl) (Nat.le_of_ble_eq_true rfl) ?_
        exact EW.thr h ek
    · exact absurd hk (by simp)
set_option maxRecDepth 100000 in
theorem w_lacking (hl : l.stackTraces = false) (h : CL G S tg W A t) (ho : OU S out) (o : Int32) :
    MTw l G S yL_lacking cL_lacking 4 (some .int) [(0, 9, 12, 19)] (rmW 1 6) [va_rf (some t), .int o, va_rf (some out)] (EW G S tg t out (oLacking A o)) := by
  refine MTw_of (by decide +kernel) hl rfl (Nat.le_of_ble_eq_true rfl) (fun Z hC hzl hnm hT hQ => ?_)
  change J G Z S 0 0 0 [some (va_rf (some t)), some (.int o), some (va_rf (some out)), none] []
  have hzs : (zl Z).stackTraces = false := by rw [hzl]; exact hl
  refine r_aload_n hC dL_lacking_0 rfl rfl ?_
  refine r_iconst (v := nI 0) hC dL_lacking_1 (by decide) ?_
  refine r_aload_n hC dL_lacking_2 rfl rfl ?_
  refine r_iload_n hC dL_lacking_3 rfl rfl ?_
  refine r_cV (as := [.int o]) hC (c_lacking hzs h o) cs_X7_lacking q_588 q_589 q_590 (h.kt) (by decide) rfl dL_lacking_4 rfl rfl ⟨Nat.le_of_ble_eq_true rfl, Nat.le_of_ble_eq_true rfl⟩ (Nat.le_of_ble_eq_true rfl) ⟨Nat.le_of_ble_eq_true rfl, Nat.le_of_ble_eq_true rfl⟩ (fun v4 S4 p4 => ?_) (fun E4 x4 => ?_)
  · have hp := p4
    obtain ⟨e0, rfl, tg', W', h1, h2⟩ := p4
    have ho2 := ho.frC h2
    refine r_i2l hC dL_lacking_7 ?_
    refine r_last hC dL_lacking_8 (ho2.1) (rfl) (by rw [ho2.2]; decide) (by rw [ho2.2]; decide) ?_
    refine r_goto (tgt := 15) hC dL_lacking_9 (by decide) ?_
    refine r_iconst (v := nI 0) hC dL_lacking_15 (by decide) ?_
    refine r_iret hC hQ rfl dL_lacking_16 (Nat.le_of_ble_eq_true rfl) (Nat.le_of_ble_eq_true rfl) ?_
    exact EW.ok hp rfl
  · obtain ⟨k, ek, hk⟩ := x4
    rcases k with _ | k
    · obtain rfl : eIO = E4 := Option.some.inj hk
      refine r_catch hC hT (name := eIO) [] ⟨0, 9, 12, 19⟩ [] rfl (fun z hz => ?_) rfl (by decide) q_402 q_417 (fun q => ?_)
      · exact absurd hz List.not_mem_nil
      · refine r_astore_n hC dL_lacking_12 rfl (by decide) ?_
        refine r_iconst (v := nI 1) hC dL_lacking_13 (by decide) ?_
        refine r_iret hC hQ rfl dL_lacking_14 (Nat.le_of_ble_eq_true rfl) (Nat.le_of_ble_eq_true rfl) ?_
        exact EW.thr h ek
    · exact absurd hk (by simp)
set_option maxRecDepth 100000 in
theorem w_waits (hl : l.stackTraces = false) (h : CL G S tg W A t) (ho : OU S out) (o : Int32) :
    MTw l G S yL_waits cL_waits 4 (some .int) [(0, 9, 12, 19)] (rmW 1 6) [va_rf (some t), .int o, va_rf (some out)] (EW G S tg t out (oWaits A o)) := by
  refine MTw_of (by decide +kernel) hl rfl (Nat.le_of_ble_eq_true rfl) (fun Z hC hzl hnm hT hQ => ?_)
  change J G Z S 0 0 0 [some (va_rf (some t)), some (.int o), some (va_rf (some out)), none] []
  have hzs : (zl Z).stackTraces = false := by rw [hzl]; exact hl
  refine r_aload_n hC dL_waits_0 rfl rfl ?_
  refine r_iconst (v := nI 0) hC dL_waits_1 (by decide) ?_
  refine r_aload_n hC dL_waits_2 rfl rfl ?_
  refine r_iload_n hC dL_waits_3 rfl rfl ?_
  refine r_cV (as := [.int o]) hC (c_waits hzs h o) cs_X7_waits q_615 q_616 q_617 (h.kt) (by decide) rfl dL_waits_4 rfl rfl ⟨Nat.le_of_ble_eq_true rfl, Nat.le_of_ble_eq_true rfl⟩ (Nat.le_of_ble_eq_true rfl) ⟨Nat.le_of_ble_eq_true rfl, Nat.le_of_ble_eq_true rfl⟩ (fun v4 S4 p4 => ?_) (fun E4 x4 => ?_)
  · have hp := p4
    obtain ⟨e0, rfl, tg', W', h1, h2⟩ := p4
    have ho2 := ho.frC h2
    refine r_i2l hC dL_waits_7 ?_
    refine r_last hC dL_waits_8 (ho2.1) (rfl) (by rw [ho2.2]; decide) (by rw [ho2.2]; decide) ?_
    refine r_goto (tgt := 15) hC dL_waits_9 (by decide) ?_
    refine r_iconst (v := nI 0) hC dL_waits_15 (by decide) ?_
    refine r_iret hC hQ rfl dL_waits_16 (Nat.le_of_ble_eq_true rfl) (Nat.le_of_ble_eq_true rfl) ?_
    exact EW.ok hp rfl
  · obtain ⟨k, ek, hk⟩ := x4
    rcases k with _ | k
    · obtain rfl : eIO = E4 := Option.some.inj hk
      refine r_catch hC hT (name := eIO) [] ⟨0, 9, 12, 19⟩ [] rfl (fun z hz => ?_) rfl (by decide) q_402 q_417 (fun q => ?_)
      · exact absurd hz List.not_mem_nil
      · refine r_astore_n hC dL_waits_12 rfl (by decide) ?_
        refine r_iconst (v := nI 1) hC dL_waits_13 (by decide) ?_
        refine r_iret hC hQ rfl dL_waits_14 (Nat.le_of_ble_eq_true rfl) (Nat.le_of_ble_eq_true rfl) ?_
        exact EW.thr h ek
    · exact absurd hk (by simp)
set_option maxRecDepth 100000 in
theorem w_setFolds (hl : l.stackTraces = false) (h : CL G S tg W A t) (x y z : Int32) :
    MTw l G S yL_setFolds cL_setFolds 5 (some .int) [(0, 7, 10, 21)] (rmW 5 40) [va_rf (some t), .int x, .int y, .int z] (EWv G S tg t (oSetFolds A x y z)) := by
  refine MTw_of (by decide +kernel) hl rfl (Nat.le_of_ble_eq_true rfl) (fun Z hC hzl hnm hT hQ => ?_)
  change J G Z S 0 0 0 [some (va_rf (some t)), some (.int x), some (.int y), some (.int z), none] []
  have hzs : (zl Z).stackTraces = false := by rw [hzl]; exact hl
  refine r_aload_n hC dL_setFolds_0 rfl rfl ?_
  refine r_iload_n hC dL_setFolds_1 rfl rfl ?_
  refine r_iload_n hC dL_setFolds_2 rfl rfl ?_
  refine r_iload_n hC dL_setFolds_3 rfl rfl ?_
  refine r_cV (as := [.int x, .int y, .int z]) hC (c_setFolds hzs h x y z) cs_X7_setFolds q_629 q_630 q_631 (h.kt) (by decide) rfl dL_setFolds_4 rfl rfl ⟨Nat.le_of_ble_eq_true rfl, Nat.le_of_ble_eq_true rfl⟩ (Nat.le_of_ble_eq_true rfl) ⟨Nat.le_of_ble_eq_true rfl, Nat.le_of_ble_eq_true rfl⟩ (fun v4 S4 p4 => ?_) (fun E4 x4 => ?_)
  · obtain ⟨e0, rfl, tg', W', h1, h2⟩ := p4
    refine r_goto (tgt := 14) hC dL_setFolds_7 (by decide) ?_
    refine r_iconst (v := nI 0) hC dL_setFolds_14 (by decide) ?_
    refine r_iret hC hQ rfl dL_setFolds_15 (Nat.le_of_ble_eq_true rfl) (Nat.le_of_ble_eq_true rfl) ?_
    exact EWv.ok e0 h1 h2
  · obtain ⟨k, ek, hk⟩ := x4
    rcases k with _ | k
    · obtain rfl : eIA = E4 := Option.some.inj hk
      refine r_catch hC hT (name := eIA) [] ⟨0, 7, 10, 21⟩ [] rfl (fun z hz => ?_) rfl (by decide) q_403 q_437 (fun q => ?_)
      · exact absurd hz List.not_mem_nil
      · refine r_astore hC dL_setFolds_10 (by decide) ?_
        refine r_iconst (v := nI 1) hC dL_setFolds_12 (by decide) ?_
        refine r_iret hC hQ rfl dL_setFolds_13 (Nat.le_of_ble_eq_true rfl) (Nat.le_of_ble_eq_true rfl) ?_
        exact EWv.thr h ek
    · exact absurd hk (by simp)
set_option maxRecDepth 100000 in
theorem w_cellOf (hl : l.stackTraces = false) (h : CL G S tg W A t) (ho : OU S out) (x : Int32) :
    MTw l G S yL_cellOf cL_cellOf 4 (some .int) [(0, 9, 12, 19)] (rmW 1 6) [va_rf (some t), .int x, va_rf (some out)] (EW G S tg t out (oCellOf A x)) := by
  refine MTw_of (by decide +kernel) hl rfl (Nat.le_of_ble_eq_true rfl) (fun Z hC hzl hnm hT hQ => ?_)
  change J G Z S 0 0 0 [some (va_rf (some t)), some (.int x), some (va_rf (some out)), none] []
  have hzs : (zl Z).stackTraces = false := by rw [hzl]; exact hl
  refine r_aload_n hC dL_cellOf_0 rfl rfl ?_
  refine r_iconst (v := nI 0) hC dL_cellOf_1 (by decide) ?_
  refine r_aload_n hC dL_cellOf_2 rfl rfl ?_
  refine r_iload_n hC dL_cellOf_3 rfl rfl ?_
  refine r_cV (as := [.int x]) hC (c_cellOf hzs h x) cs_X7_cellOf q_640 q_641 q_642 (h.kt) (by decide) rfl dL_cellOf_4 rfl rfl ⟨Nat.le_of_ble_eq_true rfl, Nat.le_of_ble_eq_true rfl⟩ (Nat.le_of_ble_eq_true rfl) ⟨Nat.le_of_ble_eq_true rfl, Nat.le_of_ble_eq_true rfl⟩ (fun v4 S4 p4 => ?_) (fun E4 x4 => ?_)
  · have hp := p4
    obtain ⟨e0, rfl, tg', W', h1, h2⟩ := p4
    have ho2 := ho.frC h2
    refine r_i2l hC dL_cellOf_7 ?_
    refine r_last hC dL_cellOf_8 (ho2.1) (rfl) (by rw [ho2.2]; decide) (by rw [ho2.2]; decide) ?_
    refine r_goto (tgt := 15) hC dL_cellOf_9 (by decide) ?_
    refine r_iconst (v := nI 0) hC dL_cellOf_15 (by decide) ?_
    refine r_iret hC hQ rfl dL_cellOf_16 (Nat.le_of_ble_eq_true rfl) (Nat.le_of_ble_eq_true rfl) ?_
    exact EW.ok hp rfl
  · obtain ⟨k, ek, hk⟩ := x4
    rcases k with _ | k
    · obtain rfl : eIO = E4 := Option.some.inj hk
      refine r_catch hC hT (name := eIO) [] ⟨0, 9, 12, 19⟩ [] rfl (fun z hz => ?_) rfl (by decide) q_402 q_417 (fun q => ?_)
      · exact absurd hz List.not_mem_nil
      · refine r_astore_n hC dL_cellOf_12 rfl (by decide) ?_
        refine r_iconst (v := nI 1) hC dL_cellOf_13 (by decide) ?_
        refine r_iret hC hQ rfl dL_cellOf_14 (Nat.le_of_ble_eq_true rfl) (Nat.le_of_ble_eq_true rfl) ?_
        exact EW.thr h ek
    · exact absurd hk (by simp)
set_option maxRecDepth 100000 in
theorem w_placeOf (hl : l.stackTraces = false) (h : CL G S tg W A t) (ho : OU S out) (x : Int32) :
    MTw l G S yL_placeOf cL_placeOf 4 (some .int) [(0, 9, 12, 19)] (rmW 1 6) [va_rf (some t), .int x, va_rf (some out)] (EW G S tg t out (oPlaceOf A x)) := by
  refine MTw_of (by decide +kernel) hl rfl (Nat.le_of_ble_eq_true rfl) (fun Z hC hzl hnm hT hQ => ?_)
  change J G Z S 0 0 0 [some (va_rf (some t)), some (.int x), some (va_rf (some out)), none] []
  have hzs : (zl Z).stackTraces = false := by rw [hzl]; exact hl
  refine r_aload_n hC dL_placeOf_0 rfl rfl ?_
  refine r_iconst (v := nI 0) hC dL_placeOf_1 (by decide) ?_
  refine r_aload_n hC dL_placeOf_2 rfl rfl ?_
  refine r_iload_n hC dL_placeOf_3 rfl rfl ?_
  refine r_cV (as := [.int x]) hC (c_placeOf hzs h x) cs_X7_placeOf q_654 q_655 q_656 (h.kt) (by decide) rfl dL_placeOf_4 rfl rfl ⟨Nat.le_of_ble_eq_true rfl, Nat.le_of_ble_eq_true rfl⟩ (Nat.le_of_ble_eq_true rfl) ⟨Nat.le_of_ble_eq_true rfl, Nat.le_of_ble_eq_true rfl⟩ (fun v4 S4 p4 => ?_) (fun E4 x4 => ?_)
  · have hp := p4
    obtain ⟨e0, rfl, tg', W', h1, h2⟩ := p4
    have ho2 := ho.frC h2
    refine r_i2l hC dL_placeOf_7 ?_
    refine r_last hC dL_placeOf_8 (ho2.1) (rfl) (by rw [ho2.2]; decide) (by rw [ho2.2]; decide) ?_
    refine r_goto (tgt := 15) hC dL_placeOf_9 (by decide) ?_
    refine r_iconst (v := nI 0) hC dL_placeOf_15 (by decide) ?_
    refine r_iret hC hQ rfl dL_placeOf_16 (Nat.le_of_ble_eq_true rfl) (Nat.le_of_ble_eq_true rfl) ?_
    exact EW.ok hp rfl
  · obtain ⟨k, ek, hk⟩ := x4
    rcases k with _ | k
    · obtain rfl : eIO = E4 := Option.some.inj hk
      refine r_catch hC hT (name := eIO) [] ⟨0, 9, 12, 19⟩ [] rfl (fun z hz => ?_) rfl (by decide) q_402 q_417 (fun q => ?_)
      · exact absurd hz List.not_mem_nil
      · refine r_astore_n hC dL_placeOf_12 rfl (by decide) ?_
        refine r_iconst (v := nI 1) hC dL_placeOf_13 (by decide) ?_
        refine r_iret hC hQ rfl dL_placeOf_14 (Nat.le_of_ble_eq_true rfl) (Nat.le_of_ble_eq_true rfl) ?_
        exact EW.thr h ek
    · exact absurd hk (by simp)
set_option maxRecDepth 100000 in
theorem w_print (hl : l.stackTraces = false) (h : CL G S tg W A t) (ho : OU S out) (x : Int32) :
    MTw l G S yL_print cL_print 4 (some .int) [(0, 9, 12, 21), (0, 9, 15, 13)] (rmW 440 3600) [va_rf (some t), .int x, va_rf (some out)] (EW G S tg t out (oPrint A x)) := by
  refine MTw_of (by decide +kernel) hl rfl (Nat.le_of_ble_eq_true rfl) (fun Z hC hzl hnm hT hQ => ?_)
  change J G Z S 0 0 0 [some (va_rf (some t)), some (.int x), some (va_rf (some out)), none] []
  have hzs : (zl Z).stackTraces = false := by rw [hzl]; exact hl
  refine r_aload_n hC dL_print_0 rfl rfl ?_
  refine r_iconst (v := nI 0) hC dL_print_1 (by decide) ?_
  refine r_aload_n hC dL_print_2 rfl rfl ?_
  refine r_iload_n hC dL_print_3 rfl rfl ?_
  refine r_cV (as := [.int x]) hC (c_print hzs h x) cs_X7_print q_689 q_690 q_691 (h.kt) (by decide) rfl dL_print_4 rfl rfl ⟨Nat.le_of_ble_eq_true rfl, Nat.le_of_ble_eq_true rfl⟩ (Nat.le_of_ble_eq_true rfl) ⟨Nat.le_of_ble_eq_true rfl, Nat.le_of_ble_eq_true rfl⟩ (fun v4 S4 p4 => ?_) (fun E4 x4 => ?_)
  · have hp := p4
    obtain ⟨e0, rfl, tg', W', h1, h2⟩ := p4
    have ho2 := ho.frC h2
    refine r_i2l hC dL_print_7 ?_
    refine r_last hC dL_print_8 (ho2.1) (rfl) (by rw [ho2.2]; decide) (by rw [ho2.2]; decide) ?_
    refine r_goto (tgt := 18) hC dL_print_9 (by decide) ?_
    refine r_iconst (v := nI 0) hC dL_print_18 (by decide) ?_
    refine r_iret hC hQ rfl dL_print_19 (Nat.le_of_ble_eq_true rfl) (Nat.le_of_ble_eq_true rfl) ?_
    exact EW.ok hp rfl
  · obtain ⟨k, ek, hk⟩ := x4
    rcases k with _ | _ | k
    · obtain rfl : eIA = E4 := Option.some.inj hk
      refine r_catch hC hT (name := eIA) [] ⟨0, 9, 12, 21⟩ [⟨0, 9, 15, 13⟩] rfl (fun z hz => ?_) rfl (by decide) q_403 q_437 (fun q => ?_)
      · exact absurd hz List.not_mem_nil
      · refine r_astore_n hC dL_print_12 rfl (by decide) ?_
        refine r_iconst (v := nI 1) hC dL_print_13 (by decide) ?_
        refine r_iret hC hQ rfl dL_print_14 (Nat.le_of_ble_eq_true rfl) (Nat.le_of_ble_eq_true rfl) ?_
        exact EW.thr h ek
    · obtain rfl : eIS = E4 := Option.some.inj hk
      refine r_catch hC hT (name := eIS) [⟨0, 9, 12, 21⟩] ⟨0, 9, 15, 13⟩ [] rfl (fun z hz => ?_) rfl (by decide) q_236 q_243 (fun q => ?_)
      · rcases List.mem_cons.mp hz with rfl | hz
        · exact Or.inr ⟨by decide, eIA, q_403, hC.ks.2.2.2.2.2.2.2.2.1 (eIS, eIA) (by decide)⟩
        exact absurd hz List.not_mem_nil
      · refine r_astore_n hC dL_print_15 rfl (by decide) ?_
        refine r_iconst (v := nI 2) hC dL_print_16 (by decide) ?_
        refine r_iret hC hQ rfl dL_print_17 (Nat.le_of_ble_eq_true rfl) (Nat.le_of_ble_eq_true rfl) ?_
        exact EW.thr h ek
    · exact absurd hk (by simp)
set_option maxRecDepth 100000 in
theorem w_onSheet (hl : l.stackTraces = false) (h : CL G S tg W A t) (ho : OU S out) (s x : Int32) :
    MTw l G S yL_onSheet cL_onSheet 5 (some .int) [(0, 10, 13, 19), (0, 10, 17, 63)] (rmW 2 12) [va_rf (some t), .int s, .int x, va_rf (some out)] (EW G S tg t out (oOnSheet A s x)) := by
  refine MTw_of (by decide +kernel) hl rfl (Nat.le_of_ble_eq_true rfl) (fun Z hC hzl hnm hT hQ => ?_)
  change J G Z S 0 0 0 [some (va_rf (some t)), some (.int s), some (.int x), some (va_rf (some out)), none] []
  have hzs : (zl Z).stackTraces = false := by rw [hzl]; exact hl
  refine r_aload_n hC dL_onSheet_0 rfl rfl ?_
  refine r_iconst (v := nI 0) hC dL_onSheet_1 (by decide) ?_
  refine r_aload_n hC dL_onSheet_2 rfl rfl ?_
  refine r_iload_n hC dL_onSheet_3 rfl rfl ?_
  refine r_iload_n hC dL_onSheet_4 rfl rfl ?_
  refine r_cV (as := [.int s, .int x]) hC (c_onSheet hzs h s x) cs_X7_onSheet q_781 q_782 q_783 (h.kt) (by decide) rfl dL_onSheet_5 rfl rfl ⟨Nat.le_of_ble_eq_true rfl, Nat.le_of_ble_eq_true rfl⟩ (Nat.le_of_ble_eq_true rfl) ⟨Nat.le_of_ble_eq_true rfl, Nat.le_of_ble_eq_true rfl⟩ (fun v5 S5 p5 => ?_) (fun E5 x5 => ?_)
  · have hp := p5
    obtain ⟨e0, rfl, tg', W', h1, h2⟩ := p5
    have ho2 := ho.frC h2
    refine r_i2l hC dL_onSheet_8 ?_
    refine r_last hC dL_onSheet_9 (ho2.1) (rfl) (by rw [ho2.2]; decide) (by rw [ho2.2]; decide) ?_
    refine r_goto (tgt := 21) hC dL_onSheet_10 (by decide) ?_
    refine r_iconst (v := nI 0) hC dL_onSheet_21 (by decide) ?_
    refine r_iret hC hQ rfl dL_onSheet_22 (Nat.le_of_ble_eq_true rfl) (Nat.le_of_ble_eq_true rfl) ?_
    exact EW.ok hp rfl
  · obtain ⟨k, ek, hk⟩ := x5
    rcases k with _ | _ | k
    · obtain rfl : eIO = E5 := Option.some.inj hk
      refine r_catch hC hT (name := eIO) [] ⟨0, 10, 13, 19⟩ [⟨0, 10, 17, 63⟩] rfl (fun z hz => ?_) rfl (by decide) q_402 q_417 (fun q => ?_)
      · exact absurd hz List.not_mem_nil
      · refine r_astore hC dL_onSheet_13 (by decide) ?_
        refine r_iconst (v := nI 1) hC dL_onSheet_15 (by decide) ?_
        refine r_iret hC hQ rfl dL_onSheet_16 (Nat.le_of_ble_eq_true rfl) (Nat.le_of_ble_eq_true rfl) ?_
        exact EW.thr h ek
    · obtain rfl : eNS = E5 := Option.some.inj hk
      refine r_catch hC hT (name := eNS) [⟨0, 10, 13, 19⟩] ⟨0, 10, 17, 63⟩ [] rfl (fun z hz => ?_) rfl (by decide) q_780 q_787 (fun q => ?_)
      · rcases List.mem_cons.mp hz with rfl | hz
        · exact Or.inr ⟨by decide, eIO, q_402, hC.ks.2.2.2.2.2.2.2.2.1 (eNS, eIO) (by decide)⟩
        exact absurd hz List.not_mem_nil
      · refine r_astore hC dL_onSheet_17 (by decide) ?_
        refine r_iconst (v := nI 2) hC dL_onSheet_19 (by decide) ?_
        refine r_iret hC hQ rfl dL_onSheet_20 (Nat.le_of_ble_eq_true rfl) (Nat.le_of_ble_eq_true rfl) ?_
        exact EW.thr h ek
    · exact absurd hk (by simp)
set_option maxRecDepth 100000 in
theorem w_cut (hl : l.stackTraces = false) (h : CL G S tg W A t) (ho : OU S out) (x : Int32) :
    MTw l G S yL_cut cL_cut 4 (some .int) [(0, 9, 12, 19), (0, 9, 15, 63)] (rmW 2 12) [va_rf (some t), .int x, va_rf (some out)] (EW G S tg t out (oCut A x)) := by
  refine MTw_of (by decide +kernel) hl rfl (Nat.le_of_ble_eq_true rfl) (fun Z hC hzl hnm hT hQ => ?_)
  change J G Z S 0 0 0 [some (va_rf (some t)), some (.int x), some (va_rf (some out)), none] []
  have hzs : (zl Z).stackTraces = false := by rw [hzl]; exact hl
  refine r_aload_n hC dL_cut_0 rfl rfl ?_
  refine r_iconst (v := nI 0) hC dL_cut_1 (by decide) ?_
  refine r_aload_n hC dL_cut_2 rfl rfl ?_
  refine r_iload_n hC dL_cut_3 rfl rfl ?_
  refine r_cV (as := [.int x]) hC (c_cut hzs h x) cs_X7_cut q_812 q_813 q_814 (h.kt) (by decide) rfl dL_cut_4 rfl rfl ⟨Nat.le_of_ble_eq_true rfl, Nat.le_of_ble_eq_true rfl⟩ (Nat.le_of_ble_eq_true rfl) ⟨Nat.le_of_ble_eq_true rfl, Nat.le_of_ble_eq_true rfl⟩ (fun v4 S4 p4 => ?_) (fun E4 x4 => ?_)
  · have hp := p4
    obtain ⟨e0, rfl, tg', W', h1, h2⟩ := p4
    have ho2 := ho.frC h2
    refine r_i2l hC dL_cut_7 ?_
    refine r_last hC dL_cut_8 (ho2.1) (rfl) (by rw [ho2.2]; decide) (by rw [ho2.2]; decide) ?_
    refine r_goto (tgt := 18) hC dL_cut_9 (by decide) ?_
    refine r_iconst (v := nI 0) hC dL_cut_18 (by decide) ?_
    refine r_iret hC hQ rfl dL_cut_19 (Nat.le_of_ble_eq_true rfl) (Nat.le_of_ble_eq_true rfl) ?_
    exact EW.ok hp rfl
  · obtain ⟨k, ek, hk⟩ := x4
    rcases k with _ | _ | k
    · obtain rfl : eIO = E4 := Option.some.inj hk
      refine r_catch hC hT (name := eIO) [] ⟨0, 9, 12, 19⟩ [⟨0, 9, 15, 63⟩] rfl (fun z hz => ?_) rfl (by decide) q_402 q_417 (fun q => ?_)
      · exact absurd hz List.not_mem_nil
      · refine r_astore_n hC dL_cut_12 rfl (by decide) ?_
        refine r_iconst (v := nI 1) hC dL_cut_13 (by decide) ?_
        refine r_iret hC hQ rfl dL_cut_14 (Nat.le_of_ble_eq_true rfl) (Nat.le_of_ble_eq_true rfl) ?_
        exact EW.thr h ek
    · obtain rfl : eNS = E4 := Option.some.inj hk
      refine r_catch hC hT (name := eNS) [⟨0, 9, 12, 19⟩] ⟨0, 9, 15, 63⟩ [] rfl (fun z hz => ?_) rfl (by decide) q_780 q_787 (fun q => ?_)
      · rcases List.mem_cons.mp hz with rfl | hz
        · exact Or.inr ⟨by decide, eIO, q_402, hC.ks.2.2.2.2.2.2.2.2.1 (eNS, eIO) (by decide)⟩
        exact absurd hz List.not_mem_nil
      · refine r_astore_n hC dL_cut_15 rfl (by decide) ?_
        refine r_iconst (v := nI 2) hC dL_cut_16 (by decide) ?_
        refine r_iret hC hQ rfl dL_cut_17 (Nat.le_of_ble_eq_true rfl) (Nat.le_of_ble_eq_true rfl) ?_
        exact EW.thr h ek
    · exact absurd hk (by simp)
set_option maxRecDepth 100000 in
theorem w_sharpen (hl : l.stackTraces = false) (h : CL G S tg W A t) (ho : OU S out) (x : Int32) :
    MTw l G S yL_sharpen cL_sharpen 4 (some .int) [(0, 9, 12, 19)] (rmW 1 6) [va_rf (some t), .int x, va_rf (some out)] (EW G S tg t out (oSharpen A x)) := by
  refine MTw_of (by decide +kernel) hl rfl (Nat.le_of_ble_eq_true rfl) (fun Z hC hzl hnm hT hQ => ?_)
  change J G Z S 0 0 0 [some (va_rf (some t)), some (.int x), some (va_rf (some out)), none] []
  have hzs : (zl Z).stackTraces = false := by rw [hzl]; exact hl
  refine r_aload_n hC dL_sharpen_0 rfl rfl ?_
  refine r_iconst (v := nI 0) hC dL_sharpen_1 (by decide) ?_
  refine r_aload_n hC dL_sharpen_2 rfl rfl ?_
  refine r_iload_n hC dL_sharpen_3 rfl rfl ?_
  refine r_cV (as := [.int x]) hC (c_sharpen hzs h x) cs_X7_sharpen q_828 q_829 q_830 (h.kt) (by decide) rfl dL_sharpen_4 rfl rfl ⟨Nat.le_of_ble_eq_true rfl, Nat.le_of_ble_eq_true rfl⟩ (Nat.le_of_ble_eq_true rfl) ⟨Nat.le_of_ble_eq_true rfl, Nat.le_of_ble_eq_true rfl⟩ (fun v4 S4 p4 => ?_) (fun E4 x4 => ?_)
  · have hp := p4
    obtain ⟨e0, rfl, tg', W', h1, h2⟩ := p4
    have ho2 := ho.frC h2
    refine r_i2l hC dL_sharpen_7 ?_
    refine r_last hC dL_sharpen_8 (ho2.1) (rfl) (by rw [ho2.2]; decide) (by rw [ho2.2]; decide) ?_
    refine r_goto (tgt := 15) hC dL_sharpen_9 (by decide) ?_
    refine r_iconst (v := nI 0) hC dL_sharpen_15 (by decide) ?_
    refine r_iret hC hQ rfl dL_sharpen_16 (Nat.le_of_ble_eq_true rfl) (Nat.le_of_ble_eq_true rfl) ?_
    exact EW.ok hp rfl
  · obtain ⟨k, ek, hk⟩ := x4
    rcases k with _ | k
    · obtain rfl : eIO = E4 := Option.some.inj hk
      refine r_catch hC hT (name := eIO) [] ⟨0, 9, 12, 19⟩ [] rfl (fun z hz => ?_) rfl (by decide) q_402 q_417 (fun q => ?_)
      · exact absurd hz List.not_mem_nil
      · refine r_astore_n hC dL_sharpen_12 rfl (by decide) ?_
        refine r_iconst (v := nI 1) hC dL_sharpen_13 (by decide) ?_
        refine r_iret hC hQ rfl dL_sharpen_14 (Nat.le_of_ble_eq_true rfl) (Nat.le_of_ble_eq_true rfl) ?_
        exact EW.thr h ek
    · exact absurd hk (by simp)
set_option maxRecDepth 100000 in
theorem w_setTolerance (hl : l.stackTraces = false) (h : CL G S tg W A t) (ho : OU S out) (x : Int32) :
    MTw l G S yL_setTolerance cL_setTolerance 4 (some .int) [(0, 9, 12, 21)] (rmW 1 6) [va_rf (some t), .int x, va_rf (some out)] (EW G S tg t out (oSetTol A x)) := by
  refine MTw_of (by decide +kernel) hl rfl (Nat.le_of_ble_eq_true rfl) (fun Z hC hzl hnm hT hQ => ?_)
  change J G Z S 0 0 0 [some (va_rf (some t)), some (.int x), some (va_rf (some out)), none] []
  have hzs : (zl Z).stackTraces = false := by rw [hzl]; exact hl
  refine r_aload_n hC dL_setTolerance_0 rfl rfl ?_
  refine r_iconst (v := nI 0) hC dL_setTolerance_1 (by decide) ?_
  refine r_aload_n hC dL_setTolerance_2 rfl rfl ?_
  refine r_iload_n hC dL_setTolerance_3 rfl rfl ?_
  refine r_cV (as := [.int x]) hC (c_setTolerance hzs h x) cs_X7_setTolerance q_835 q_836 q_837 (h.kt) (by decide) rfl dL_setTolerance_4 rfl rfl ⟨Nat.le_of_ble_eq_true rfl, Nat.le_of_ble_eq_true rfl⟩ (Nat.le_of_ble_eq_true rfl) ⟨Nat.le_of_ble_eq_true rfl, Nat.le_of_ble_eq_true rfl⟩ (fun v4 S4 p4 => ?_) (fun E4 x4 => ?_)
  · have hp := p4
    obtain ⟨e0, rfl, tg', W', h1, h2⟩ := p4
    have ho2 := ho.frC h2
    refine r_i2l hC dL_setTolerance_7 ?_
    refine r_last hC dL_setTolerance_8 (ho2.1) (rfl) (by rw [ho2.2]; decide) (by rw [ho2.2]; decide) ?_
    refine r_goto (tgt := 15) hC dL_setTolerance_9 (by decide) ?_
    refine r_iconst (v := nI 0) hC dL_setTolerance_15 (by decide) ?_
    refine r_iret hC hQ rfl dL_setTolerance_16 (Nat.le_of_ble_eq_true rfl) (Nat.le_of_ble_eq_true rfl) ?_
    exact EW.ok hp rfl
  · obtain ⟨k, ek, hk⟩ := x4
    rcases k with _ | k
    · obtain rfl : eIA = E4 := Option.some.inj hk
      refine r_catch hC hT (name := eIA) [] ⟨0, 9, 12, 21⟩ [] rfl (fun z hz => ?_) rfl (by decide) q_403 q_437 (fun q => ?_)
      · exact absurd hz List.not_mem_nil
      · refine r_astore_n hC dL_setTolerance_12 rfl (by decide) ?_
        refine r_iconst (v := nI 1) hC dL_setTolerance_13 (by decide) ?_
        refine r_iret hC hQ rfl dL_setTolerance_14 (Nat.le_of_ble_eq_true rfl) (Nat.le_of_ble_eq_true rfl) ?_
        exact EW.thr h ek
    · exact absurd hk (by simp)
set_option maxRecDepth 100000 in
theorem w_bind (hl : l.stackTraces = false) (h : CL G S tg W A t) (ho : OU S out) (o c : Int32) :
    MTw l G S yL_bind cL_bind 5 (some .int) [(0, 10, 13, 19), (0, 10, 17, 13)] (rmW 3 18) [va_rf (some t), .int o, .int c, va_rf (some out)] (EW G S tg t out (oBind A o c)) := by
  refine MTw_of (by decide +kernel) hl rfl (Nat.le_of_ble_eq_true rfl) (fun Z hC hzl hnm hT hQ => ?_)
  change J G Z S 0 0 0 [some (va_rf (some t)), some (.int o), some (.int c), some (va_rf (some out)), none] []
  have hzs : (zl Z).stackTraces = false := by rw [hzl]; exact hl
  refine r_aload_n hC dL_bind_0 rfl rfl ?_
  refine r_iconst (v := nI 0) hC dL_bind_1 (by decide) ?_
  refine r_aload_n hC dL_bind_2 rfl rfl ?_
  refine r_iload_n hC dL_bind_3 rfl rfl ?_
  refine r_iload_n hC dL_bind_4 rfl rfl ?_
  refine r_cV (as := [.int o, .int c]) hC (c_bind hzs h o c) cs_X7_bind q_842 q_843 q_844 (h.kt) (by decide) rfl dL_bind_5 rfl rfl ⟨Nat.le_of_ble_eq_true rfl, Nat.le_of_ble_eq_true rfl⟩ (Nat.le_of_ble_eq_true rfl) ⟨Nat.le_of_ble_eq_true rfl, Nat.le_of_ble_eq_true rfl⟩ (fun v5 S5 p5 => ?_) (fun E5 x5 => ?_)
  · have hp := p5
    obtain ⟨e0, rfl, tg', W', h1, h2⟩ := p5
    have ho2 := ho.frC h2
    refine r_i2l hC dL_bind_8 ?_
    refine r_last hC dL_bind_9 (ho2.1) (rfl) (by rw [ho2.2]; decide) (by rw [ho2.2]; decide) ?_
    refine r_goto (tgt := 21) hC dL_bind_10 (by decide) ?_
    refine r_iconst (v := nI 0) hC dL_bind_21 (by decide) ?_
    refine r_iret hC hQ rfl dL_bind_22 (Nat.le_of_ble_eq_true rfl) (Nat.le_of_ble_eq_true rfl) ?_
    exact EW.ok hp rfl
  · obtain ⟨k, ek, hk⟩ := x5
    rcases k with _ | _ | k
    · obtain rfl : eIO = E5 := Option.some.inj hk
      refine r_catch hC hT (name := eIO) [] ⟨0, 10, 13, 19⟩ [⟨0, 10, 17, 13⟩] rfl (fun z hz => ?_) rfl (by decide) q_402 q_417 (fun q => ?_)
      · exact absurd hz List.not_mem_nil
      · refine r_astore hC dL_bind_13 (by decide) ?_
        refine r_iconst (v := nI 1) hC dL_bind_15 (by decide) ?_
        refine r_iret hC hQ rfl dL_bind_16 (Nat.le_of_ble_eq_true rfl) (Nat.le_of_ble_eq_true rfl) ?_
        exact EW.thr h ek
    · obtain rfl : eIS = E5 := Option.some.inj hk
      refine r_catch hC hT (name := eIS) [⟨0, 10, 13, 19⟩] ⟨0, 10, 17, 13⟩ [] rfl (fun z hz => ?_) rfl (by decide) q_236 q_243 (fun q => ?_)
      · rcases List.mem_cons.mp hz with rfl | hz
        · exact Or.inr ⟨by decide, eIO, q_402, hC.ks.2.2.2.2.2.2.2.2.1 (eIS, eIO) (by decide)⟩
        exact absurd hz List.not_mem_nil
      · refine r_astore hC dL_bind_17 (by decide) ?_
        refine r_iconst (v := nI 2) hC dL_bind_19 (by decide) ?_
        refine r_iret hC hQ rfl dL_bind_20 (Nat.le_of_ble_eq_true rfl) (Nat.le_of_ble_eq_true rfl) ?_
        exact EW.thr h ek
    · exact absurd hk (by simp)
set_option maxRecDepth 100000 in
theorem w_isBound (hl : l.stackTraces = false) (h : CL G S tg W A t) (ho : OU S out) (o c : Int32) :
    MTw l G S yL_isBound cL_isBound 5 (some .int) [(0, 17, 20, 19)] (rmW 2 12) [va_rf (some t), .int o, .int c, va_rf (some out)] (EW G S tg t out (oIsBound A o c)) := by
  refine MTw_of (by decide +kernel) hl rfl (Nat.le_of_ble_eq_true rfl) (fun Z hC hzl hnm hT hQ => ?_)
  change J G Z S 0 0 0 [some (va_rf (some t)), some (.int o), some (.int c), some (va_rf (some out)), none] []
  have hzs : (zl Z).stackTraces = false := by rw [hzl]; exact hl
  refine r_aload_n hC dL_isBound_0 rfl rfl ?_
  refine r_iconst (v := nI 0) hC dL_isBound_1 (by decide) ?_
  refine r_aload_n hC dL_isBound_2 rfl rfl ?_
  refine r_iload_n hC dL_isBound_3 rfl rfl ?_
  refine r_iload_n hC dL_isBound_4 rfl rfl ?_
  refine r_cV (as := [.int o, .int c]) hC (c_isBound hzs h o c) cs_X7_isBound q_871 q_872 q_873 (h.kt) (by decide) rfl dL_isBound_5 rfl rfl ⟨Nat.le_of_ble_eq_true rfl, Nat.le_of_ble_eq_true rfl⟩ (Nat.le_of_ble_eq_true rfl) ⟨Nat.le_of_ble_eq_true rfl, Nat.le_of_ble_eq_true rfl⟩ (fun v5 S5 p5 => ?_) (fun E5 x5 => ?_)
  · have hp := p5
    obtain ⟨e0, rfl, tg', W', h1, h2⟩ := p5
    have ho2 := ho.frC h2
    refine r_ifeq (tgt := 15) hC dL_isBound_8 (by decide) (fun h8 => ?_) (fun h8 => ?_)
    · refine r_lconst (v := 0) hC dL_isBound_15 rfl ?_
      refine r_last hC dL_isBound_16 (ho2.1) (rfl) (by rw [ho2.2]; decide) (by rw [ho2.2]; decide) ?_
      refine r_goto (tgt := 24) hC dL_isBound_17 (by decide) ?_
      refine r_iconst (v := nI 0) hC dL_isBound_24 (by decide) ?_
      refine r_iret hC hQ rfl dL_isBound_25 (Nat.le_of_ble_eq_true rfl) (Nat.le_of_ble_eq_true rfl) ?_
      have := EW.ok (out := out) hp rfl
      rw [h8] at this
      exact this
    · refine r_lconst (v := 1) hC dL_isBound_11 rfl ?_
      refine r_goto (tgt := 16) hC dL_isBound_12 (by decide) ?_
      refine r_last hC dL_isBound_16 (ho2.1) (rfl) (by rw [ho2.2]; decide) (by rw [ho2.2]; decide) ?_
      refine r_goto (tgt := 24) hC dL_isBound_17 (by decide) ?_
      refine r_iconst (v := nI 0) hC dL_isBound_24 (by decide) ?_
      refine r_iret hC hQ rfl dL_isBound_25 (Nat.le_of_ble_eq_true rfl) (Nat.le_of_ble_eq_true rfl) ?_
      have e1 : (oIsBound A o c).2.1 = 1 := (oIsBound_01 A o c).resolve_left h8
      have := EW.ok (out := out) hp rfl
      rw [e1] at this
      exact this
  · obtain ⟨k, ek, hk⟩ := x5
    rcases k with _ | k
    · obtain rfl : eIO = E5 := Option.some.inj hk
      refine r_catch hC hT (name := eIO) [] ⟨0, 17, 20, 19⟩ [] rfl (fun z hz => ?_) rfl (by decide) q_402 q_417 (fun q => ?_)
      · exact absurd hz List.not_mem_nil
      · refine r_astore hC dL_isBound_20 (by decide) ?_
        refine r_iconst (v := nI 1) hC dL_isBound_22 (by decide) ?_
        refine r_iret hC hQ rfl dL_isBound_23 (Nat.le_of_ble_eq_true rfl) (Nat.le_of_ble_eq_true rfl) ?_
        exact EW.thr h ek
    · exact absurd hk (by simp)
set_option maxRecDepth 100000 in
theorem w_trim (hl : l.stackTraces = false) (h : CL G S tg W A t) (ho : OU S out) (o c f : Int32) :
    MTw l G S yL_trim cL_trim 6 (some .int) [(0, 12, 15, 19)] (rmW 3 18) [va_rf (some t), .int o, .int c, .int f, va_rf (some out)] (EW G S tg t out (oTrim A o c f)) := by
  refine MTw_of (by decide +kernel) hl rfl (Nat.le_of_ble_eq_true rfl) (fun Z hC hzl hnm hT hQ => ?_)
  change J G Z S 0 0 0 [some (va_rf (some t)), some (.int o), some (.int c), some (.int f), some (va_rf (some out)), none] []
  have hzs : (zl Z).stackTraces = false := by rw [hzl]; exact hl
  refine r_aload hC dL_trim_0 rfl ?_
  refine r_iconst (v := nI 0) hC dL_trim_2 (by decide) ?_
  refine r_aload_n hC dL_trim_3 rfl rfl ?_
  refine r_iload_n hC dL_trim_4 rfl rfl ?_
  refine r_iload_n hC dL_trim_5 rfl rfl ?_
  refine r_iload_n hC dL_trim_6 rfl rfl ?_
  refine r_cV (as := [.int o, .int c, .int f]) hC (c_trim hzs h o c f) cs_X7_trim q_878 q_879 q_880 (h.kt) (by decide) rfl dL_trim_7 rfl rfl ⟨Nat.le_of_ble_eq_true rfl, Nat.le_of_ble_eq_true rfl⟩ (Nat.le_of_ble_eq_true rfl) ⟨Nat.le_of_ble_eq_true rfl, Nat.le_of_ble_eq_true rfl⟩ (fun v7 S7 p7 => ?_) (fun E7 x7 => ?_)
  · have hp := p7
    obtain ⟨e0, rfl, tg', W', h1, h2⟩ := p7
    have ho2 := ho.frC h2
    refine r_i2l hC dL_trim_10 ?_
    refine r_last hC dL_trim_11 (ho2.1) (rfl) (by rw [ho2.2]; decide) (by rw [ho2.2]; decide) ?_
    refine r_goto (tgt := 19) hC dL_trim_12 (by decide) ?_
    refine r_iconst (v := nI 0) hC dL_trim_19 (by decide) ?_
    refine r_iret hC hQ rfl dL_trim_20 (Nat.le_of_ble_eq_true rfl) (Nat.le_of_ble_eq_true rfl) ?_
    exact EW.ok hp rfl
  · obtain ⟨k, ek, hk⟩ := x7
    rcases k with _ | k
    · obtain rfl : eIO = E7 := Option.some.inj hk
      refine r_catch hC hT (name := eIO) [] ⟨0, 12, 15, 19⟩ [] rfl (fun z hz => ?_) rfl (by decide) q_402 q_417 (fun q => ?_)
      · exact absurd hz List.not_mem_nil
      · refine r_astore hC dL_trim_15 (by decide) ?_
        refine r_iconst (v := nI 1) hC dL_trim_17 (by decide) ?_
        refine r_iret hC hQ rfl dL_trim_18 (Nat.le_of_ble_eq_true rfl) (Nat.le_of_ble_eq_true rfl) ?_
        exact EW.thr h ek
    · exact absurd hk (by simp)
set_option maxRecDepth 100000 in
theorem w_leaf (hl : l.stackTraces = false) (h : CL G S tg W A t) (ho : OU S out) (o c f : Int32) :
    MTw l G S yL_leaf cL_leaf 6 (some .int) [(0, 12, 15, 19)] (rmW 3 18) [va_rf (some t), .int o, .int c, .int f, va_rf (some out)] (EW G S tg t out (oLeaf A o c f)) := by
  refine MTw_of (by decide +kernel) hl rfl (Nat.le_of_ble_eq_true rfl) (fun Z hC hzl hnm hT hQ => ?_)
  change J G Z S 0 0 0 [some (va_rf (some t)), some (.int o), some (.int c), some (.int f), some (va_rf (some out)), none] []
  have hzs : (zl Z).stackTraces = false := by rw [hzl]; exact hl
  refine r_aload hC dL_leaf_0 rfl ?_
  refine r_iconst (v := nI 0) hC dL_leaf_2 (by decide) ?_
  refine r_aload_n hC dL_leaf_3 rfl rfl ?_
  refine r_iload_n hC dL_leaf_4 rfl rfl ?_
  refine r_iload_n hC dL_leaf_5 rfl rfl ?_
  refine r_iload_n hC dL_leaf_6 rfl rfl ?_
  refine r_cV (as := [.int o, .int c, .int f]) hC (c_leaf hzs h o c f) cs_X7_leaf q_895 q_896 q_897 (h.kt) (by decide) rfl dL_leaf_7 rfl rfl ⟨Nat.le_of_ble_eq_true rfl, Nat.le_of_ble_eq_true rfl⟩ (Nat.le_of_ble_eq_true rfl) ⟨Nat.le_of_ble_eq_true rfl, Nat.le_of_ble_eq_true rfl⟩ (fun v7 S7 p7 => ?_) (fun E7 x7 => ?_)
  · have hp := p7
    obtain ⟨e0, rfl, tg', W', h1, h2⟩ := p7
    have ho2 := ho.frC h2
    refine r_i2l hC dL_leaf_10 ?_
    refine r_last hC dL_leaf_11 (ho2.1) (rfl) (by rw [ho2.2]; decide) (by rw [ho2.2]; decide) ?_
    refine r_goto (tgt := 19) hC dL_leaf_12 (by decide) ?_
    refine r_iconst (v := nI 0) hC dL_leaf_19 (by decide) ?_
    refine r_iret hC hQ rfl dL_leaf_20 (Nat.le_of_ble_eq_true rfl) (Nat.le_of_ble_eq_true rfl) ?_
    exact EW.ok hp rfl
  · obtain ⟨k, ek, hk⟩ := x7
    rcases k with _ | k
    · obtain rfl : eIO = E7 := Option.some.inj hk
      refine r_catch hC hT (name := eIO) [] ⟨0, 12, 15, 19⟩ [] rfl (fun z hz => ?_) rfl (by decide) q_402 q_417 (fun q => ?_)
      · exact absurd hz List.not_mem_nil
      · refine r_astore hC dL_leaf_15 (by decide) ?_
        refine r_iconst (v := nI 1) hC dL_leaf_17 (by decide) ?_
        refine r_iret hC hQ rfl dL_leaf_18 (Nat.le_of_ble_eq_true rfl) (Nat.le_of_ble_eq_true rfl) ?_
        exact EW.thr h ek
    · exact absurd hk (by simp)
set_option maxRecDepth 100000 in
theorem w_leafByPiles (hl : l.stackTraces = false) (h : CL G S tg W A t) (ho : OU S out) (o c f : Int32) :
    MTw l G S yL_leafByPiles cL_leafByPiles 6 (some .int) [(0, 12, 15, 19)] (rmW 3 18) [va_rf (some t), .int o, .int c, .int f, va_rf (some out)] (EW G S tg t out (oLeaf A o c f)) := by
  refine MTw_of (by decide +kernel) hl rfl (Nat.le_of_ble_eq_true rfl) (fun Z hC hzl hnm hT hQ => ?_)
  change J G Z S 0 0 0 [some (va_rf (some t)), some (.int o), some (.int c), some (.int f), some (va_rf (some out)), none] []
  have hzs : (zl Z).stackTraces = false := by rw [hzl]; exact hl
  refine r_aload hC dL_leafByPiles_0 rfl ?_
  refine r_iconst (v := nI 0) hC dL_leafByPiles_2 (by decide) ?_
  refine r_aload_n hC dL_leafByPiles_3 rfl rfl ?_
  refine r_iload_n hC dL_leafByPiles_4 rfl rfl ?_
  refine r_iload_n hC dL_leafByPiles_5 rfl rfl ?_
  refine r_iload_n hC dL_leafByPiles_6 rfl rfl ?_
  refine r_cV (as := [.int o, .int c, .int f]) hC (c_leafByPiles hzs h o c f) cs_X7_leafByPiles q_902 q_903 q_904 (h.kt) (by decide) rfl dL_leafByPiles_7 rfl rfl ⟨Nat.le_of_ble_eq_true rfl, Nat.le_of_ble_eq_true rfl⟩ (Nat.le_of_ble_eq_true rfl) ⟨Nat.le_of_ble_eq_true rfl, Nat.le_of_ble_eq_true rfl⟩ (fun v7 S7 p7 => ?_) (fun E7 x7 => ?_)
  · have hp := p7
    obtain ⟨e0, rfl, tg', W', h1, h2⟩ := p7
    have ho2 := ho.frC h2
    refine r_i2l hC dL_leafByPiles_10 ?_
    refine r_last hC dL_leafByPiles_11 (ho2.1) (rfl) (by rw [ho2.2]; decide) (by rw [ho2.2]; decide) ?_
    refine r_goto (tgt := 19) hC dL_leafByPiles_12 (by decide) ?_
    refine r_iconst (v := nI 0) hC dL_leafByPiles_19 (by decide) ?_
    refine r_iret hC hQ rfl dL_leafByPiles_20 (Nat.le_of_ble_eq_true rfl) (Nat.le_of_ble_eq_true rfl) ?_
    exact EW.ok hp rfl
  · obtain ⟨k, ek, hk⟩ := x7
    rcases k with _ | k
    · obtain rfl : eIO = E7 := Option.some.inj hk
      refine r_catch hC hT (name := eIO) [] ⟨0, 12, 15, 19⟩ [] rfl (fun z hz => ?_) rfl (by decide) q_402 q_417 (fun q => ?_)
      · exact absurd hz List.not_mem_nil
      · refine r_astore hC dL_leafByPiles_15 (by decide) ?_
        refine r_iconst (v := nI 1) hC dL_leafByPiles_17 (by decide) ?_
        refine r_iret hC hQ rfl dL_leafByPiles_18 (Nat.le_of_ble_eq_true rfl) (Nat.le_of_ble_eq_true rfl) ?_
        exact EW.thr h ek
    · exact absurd hk (by simp)
end Wrap

