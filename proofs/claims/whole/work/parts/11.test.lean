set_option maxRecDepth 100000 in
def P_D_init : jx_fS := sSeq (sObj) (sSeq (sPR 0 5 (fLr 0) (fNA 50 8 (.int 0))) (sRV))
set_option maxRecDepth 100000 in
set_option maxHeartbeats 4000000 in
theorem s_D_init : jx_SX M_D_init 0 0 P_D_init 1 8 := by
  unfold P_D_init
  exact sx_cnt (sx_seqc (sx_ty (pc := 0) (pc' := 4) (sx_obj d_D_init_0 d_D_init_1 w_0 w_1 w_2 (by decide) (by decide))) (sx_seqc (sx_ty (pc := 4) (pc' := 12) (sx_putR jt_ai (er_aload_n d_D_init_4 rfl) (er_newi (N := 8) (ei_bipush d_D_init_5 cb_8) (by decide +kernel) (by decide +kernel) (by decide) jw_ai d_D_init_7) fq_D_init_9 d_D_init_9)) (sx_ty (pc := 12) (sx_retV d_D_init_12)))) (by decide) (by decide)
def G_D_init : List Value → hp_H → Option hp_H := mV 1 P_D_init
theorem m_D_init : jx_MV y_D_init prog_2_method_1_code 1 1 12 G_D_init 1 8 := mv_of (by decide) (fun _ => rfl) s_D_init
