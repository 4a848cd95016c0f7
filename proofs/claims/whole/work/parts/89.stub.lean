def zz_R (c m : gx_St) : Prop := c = c ∧ m = m
theorem zz_0 : zz_R gz_c0 gz_m0 := sorry
theorem zz_effect {c m : gx_St} (h : zz_R c m) (a1 a2 a3 a4 a5 : Int32) : ∃ (r : Int32) (c' m' : gx_St), f_X3_effect c a1 a2 a3 a4 a5 = some (r, c') ∧ f_X4_effect m a1 a2 a3 a4 a5 = some (r, m') ∧ zz_R c' m' := by sorry
theorem zz_set {c m : gx_St} (h : zz_R c m) (a1 a2 a3 : Int32) : ∃ (r : Int32) (c' m' : gx_St), f_X3_set c a1 a2 a3 = some (r, c') ∧ f_X4_set m a1 a2 a3 = some (r, m') ∧ zz_R c' m' := by sorry
theorem zz_drop {c m : gx_St} (h : zz_R c m) : ∃ (r : Int32) (c' m' : gx_St), f_X3_drop c  = some (r, c') ∧ f_X4_drop m  = some (r, m') ∧ zz_R c' m' := by sorry
theorem zz_hand {c m : gx_St} (h : zz_R c m) (a1 a2 : Int32) : ∃ (r : Int32) (c' m' : gx_St), f_X3_hand c a1 a2 = some (r, c') ∧ f_X4_hand m a1 a2 = some (r, m') ∧ zz_R c' m' := by sorry
theorem zz_ofAxis {c m : gx_St} (h : zz_R c m) (a1 a2 : Int32) : ∃ r : Int32, f_X3_ofAxis c a1 a2 = some r ∧ f_X4_ofAxis m a1 a2 = some r := by sorry
theorem zz_ofEffect {c m : gx_St} (h : zz_R c m) (a1 a2 : Int32) : ∃ r : Int32, f_X3_ofEffect c a1 a2 = some r ∧ f_X4_ofEffect m a1 a2 = some r := by sorry
theorem zz_slots {c m : gx_St} (h : zz_R c m) (a1 : Int32) : ∃ (r : Int32) (c' m' : gx_St), f_X3_slots c a1 = some (r, c') ∧ f_X4_slots m a1 = some (r, m') ∧ zz_R c' m' := by sorry
theorem zz_slot {c m : gx_St} (h : zz_R c m) (a1 : Int32) : ∃ r : Int32, f_X3_slot c a1 = some r ∧ f_X4_slot m a1 = some r := by sorry
theorem zz_load {c m : gx_St} (h : zz_R c m) (a1 : Int32) : ∃ (r : Int32) (c' m' : gx_St), f_X3_load c a1 = some (r, c') ∧ f_X4_load m a1 = some (r, m') ∧ zz_R c' m' := by sorry
theorem zz_unload {c m : gx_St} (h : zz_R c m) (a1 : Int32) : ∃ (r : Int32) (c' m' : gx_St), f_X3_unload c a1 = some (r, c') ∧ f_X4_unload m a1 = some (r, m') ∧ zz_R c' m' := by sorry
theorem zz_play {c m : gx_St} (h : zz_R c m) (a1 : Int32) : ∃ (r : Int32) (c' m' : gx_St), f_X3_play c a1 = some (r, c') ∧ f_X4_play m a1 = some (r, m') ∧ zz_R c' m' := by sorry
theorem zz_stop {c m : gx_St} (h : zz_R c m) (a1 : Int32) : ∃ (r : Int32) (c' m' : gx_St), f_X3_stop c a1 = some (r, c') ∧ f_X4_stop m a1 = some (r, m') ∧ zz_R c' m' := by sorry
theorem zz_press {c m : gx_St} (h : zz_R c m) (a1 : Int32) : ∃ (r : Int32) (c' m' : gx_St), f_X3_press c a1 = some (r, c') ∧ f_X4_press m a1 = some (r, m') ∧ zz_R c' m' := by sorry
theorem zz_free {c m : gx_St} (h : zz_R c m) (a1 : Int32) : ∃ (r : Int32) (c' m' : gx_St), f_X3_free c a1 = some (r, c') ∧ f_X4_free m a1 = some (r, m') ∧ zz_R c' m' := by sorry
theorem zz_pass {c m : gx_St} (h : zz_R c m) (a1 : Int32) : ∃ (r : Int32) (c' m' : gx_St), f_X3_pass c a1 = some (r, c') ∧ f_X4_pass m a1 = some (r, m') ∧ zz_R c' m' := by sorry
theorem zz_hello {c m : gx_St} (h : zz_R c m) : ∃ (r : Int32) (c' m' : gx_St), f_X3_hello c  = some (r, c') ∧ f_X4_hello m  = some (r, m') ∧ zz_R c' m' := by sorry
theorem zz_watch {c m : gx_St} (h : zz_R c m) (a1 : Int32) : ∃ (r : Int32) (c' m' : gx_St), f_X3_watch c a1 = some (r, c') ∧ f_X4_watch m a1 = some (r, m') ∧ zz_R c' m' := by sorry
theorem zz_master {c m : gx_St} (h : zz_R c m) (a1 : Int32) : ∃ (r : Int32) (c' m' : gx_St), f_X3_master c a1 = some (r, c') ∧ f_X4_master m a1 = some (r, m') ∧ zz_R c' m' := by sorry
theorem zz_part {c m : gx_St} (h : zz_R c m) (a1 a2 : Int32) : ∃ r : Int32, f_X3_part c a1 a2 = some r ∧ f_X4_part m a1 a2 = some r := by sorry
theorem zz_envelope {c m : gx_St} (h : zz_R c m) (a1 : Int32) : ∃ r : Int32, f_X3_envelope c a1 = some r ∧ f_X4_envelope m a1 = some r := by sorry
theorem zz_force {c m : gx_St} (h : zz_R c m) (a1 a2 : Int32) : ∃ r : Int32, f_X3_force c a1 a2 = some r ∧ f_X4_force m a1 a2 = some r := by sorry
theorem zz_rate {c m : gx_St} (h : zz_R c m) (a1 : Int32) : ∃ (r : Int32) (c' m' : gx_St), f_X3_rate c a1 = some (r, c') ∧ f_X4_rate m a1 = some (r, m') ∧ zz_R c' m' := by sorry
theorem zz_frame {c m : gx_St} (h : zz_R c m) (a1 : Int32) : ∃ r : Int32, f_X3_frame c a1 = some r ∧ f_X4_frame m a1 = some r := by sorry
theorem zz_frames {c m : gx_St} (h : zz_R c m) : ∃ r : Int32, f_X3_frames c  = some r ∧ f_X4_frames m  = some r := by sorry
theorem zz_peak {c m : gx_St} (h : zz_R c m) (a1 a2 a3 : Int32) : ∃ r : Int32, f_X3_peak c a1 a2 a3 = some r ∧ f_X4_peak m a1 a2 a3 = some r := by sorry
theorem zz_soLong {c m : gx_St} (h : zz_R c m) (a1 : Int32) : ∃ r : Int32, f_X3_soLong c a1 = some r ∧ f_X4_soLong m a1 = some r := by sorry
theorem zz_quiet {c m : gx_St} (h : zz_R c m) (a1 : Int32) : ∃ (r : Int32) (c' : gx_St), f_X3_quiet c a1 = some (r, c') ∧ f_X4_quiet m a1 = some r ∧ zz_R c' m := by sorry
theorem zz_many {c m : gx_St} (h : zz_R c m) (a1 : Int32) : ∃ r : Int32, f_X3_many c a1 = some r ∧ f_X4_many m a1 = some r := by sorry
