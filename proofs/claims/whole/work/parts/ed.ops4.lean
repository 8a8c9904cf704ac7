/-! THE INVARIANT: the calls of the planner, the crew, the week -/
section OPD
variable {dp t tr : Nat} {TS : Nat → Prop} {z : Nat} {kd : KD} {R : RF} {J M : JI} {b4 b5 b6 b7 len sl : Nat}
theorem ia_best {x : Int} (hd : 30 ≤ dp) (ht : t < 512) (h : InvA t tr TS z kd R J M b4 b5 b6 b7 len sl) : Ev (fun n => kf_90 n dp 0 z kd J M R x) (PostA t R len sl (fun n e J M => kf_260 n dp e 0 J M x)) :=
  Ev_mono (o_best (by omega) (by have := InvA_E h ht; omega) h.2.1) (fun q hq => Post_p h hq)
theorem ia_plan {x : Int} (hd : 30 ≤ dp) (ht : t < 512) (h : InvA t tr TS z kd R J M b4 b5 b6 b7 len sl) : Ev (fun n => kf_119 n dp 0 z kd J M R x) (PostA t R len sl (fun n e J M => kf_270 n dp e 0 J M x)) :=
  Ev_mono (o_plan (by omega) (by have := InvA_E h ht; omega) h.2.1) (fun q hq => Post_p h hq)
theorem ia_made {x y : Int} (hd : 30 ≤ dp) (ht : t < 512) (h : InvA t tr TS z kd R J M b4 b5 b6 b7 len sl) : Ev (fun n => kf_124 n dp 0 z kd J M R x y) (PostA t R len sl (fun n e J M => kf_271 n dp e 0 J M x y)) :=
  Ev_mono (o_made (by omega) (by have := InvA_E h ht; omega) h.2.1) (fun q hq => Post_p h hq)
theorem ia_value {x : Int} (hd : 30 ≤ dp) (ht : t < 512) (h : InvA t tr TS z kd R J M b4 b5 b6 b7 len sl) : Ev (fun n => kf_127 n dp 0 z kd J M R x) (PostA t R len sl (fun n e J M => kf_273 n dp e 0 J M x)) :=
  Ev_mono (o_value (by omega) (by have := InvA_E h ht; omega) h.2.1) (fun q hq => Post_p h hq)
theorem ia_shorts {x : Int} (hd : 30 ≤ dp) (ht : t < 512) (h : InvA t tr TS z kd R J M b4 b5 b6 b7 len sl) : Ev (fun n => kf_129 n dp 0 z kd J M R x) (PostA t R len sl (fun n e J M => kf_275 n dp e 0 J M x)) :=
  Ev_mono (o_shorts (by omega) (by have := InvA_E h ht; omega) h.2.1) (fun q hq => Post_p h hq)
theorem ia_worth {x : Int} (hd : 30 ≤ dp) (ht : t < 512) (h : InvA t tr TS z kd R J M b4 b5 b6 b7 len sl) : Ev (fun n => kf_130 n dp 0 z kd J M R x) (PostA t R len sl (fun n e J M => kf_276 n dp e 0 J M x 0)) :=
  Ev_mono (o_worth (by omega) (by have := InvA_E h ht; omega) h.2.1) (fun q hq => Post_p h hq)
theorem ia_change {x y : Int} (hd : 30 ≤ dp) (ht : t < 512) (h : InvA t tr TS z kd R J M b4 b5 b6 b7 len sl) : Ev (fun n => kf_133 n dp 0 z kd J M R x y) (PostA t R len sl (fun n e J M => kf_277 n dp e 0 J M x y 0 0 0)) :=
  Ev_mono (o_change (by omega) (by have := InvA_E h ht; omega) h.2.1) (fun q hq => Post_p h hq)
theorem ia_given {x : Int} (hd : 30 ≤ dp) (ht : t < 512) (h : InvA t tr TS z kd R J M b4 b5 b6 b7 len sl) : Ev (fun n => kf_137 n dp 0 z kd J M R x) (PostA t R len sl (fun n e J M => kf_279 n dp e 0 J M x 0 0 0 0 0 0)) :=
  Ev_mono (o_given (by omega) (by have := InvA_E h ht; omega) h.1.2.2.2.2.2.1.2.2.2.2.1 h.2.1) (fun q hq => Post_p h hq)
theorem ia_task {x : Int} (hd : 30 ≤ dp) (ht : t < 512) (h : InvA t tr TS z kd R J M b4 b5 b6 b7 len sl) : Ev (fun n => kf_144 n dp 0 z kd J M R x) (PostA t R len sl (fun n e J M => kf_282 n dp e 0 J M x 0 0)) :=
  Ev_mono (o_task h.1.2.1 (by omega) (InvA_E h ht) h.2.1 h.2.2.1.1) (fun q hq => Post_c h hq)
theorem ia_share {x : Int} (hd : 30 ≤ dp) (ht : t < 512) (h : InvA t tr TS z kd R J M b4 b5 b6 b7 len sl) : Ev (fun n => kf_147 n dp 0 z kd J M R x) (PostA t R len sl (fun n e J M => kf_285 n dp e 0 J M x 0 0 0 0 0)) :=
  Ev_mono (o_share h.1.2.1 (by omega) (InvA_E h ht) h.1.2.2.2.2.2.1.2.2.2.2.2.2.2.1 h.1.2.2.2.2.2.1.2.2.2.1 h.2.1 h.2.2.1.1) (fun q hq => Post_c h hq)
theorem ia_week {x : Int} (hd : 30 ≤ dp) (ht : t < 512) (h : InvA t tr TS z kd R J M b4 b5 b6 b7 len sl) : Ev (fun n => kf_181 n dp 0 z kd J M R x 0 0) (PostA t R len sl (fun n e J M => kf_302 n dp e 0 J M x 0 0 0 0)) :=
  Ev_mono (o_week (t := t) (by omega) (by omega) (by have := InvA_E h ht; omega) h.1.2.2.2.2.2.2.1 h.2.1) (fun q hq => Post_w h hq)
end OPD
