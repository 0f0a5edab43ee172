/-! the law's rows, in pieces -/
theorem xm_chn {α : Type} {p : α → Bool} {l : List α} {a b : Nat} (h1 : ((l.drop a).take b).all p = true) (h2 : (l.drop (a + b)).all p = true) : (l.drop a).all p = true := by
  rw [← List.take_append_drop b (l.drop a), List.all_append, h1, List.drop_drop, Bool.true_and]
  exact h2
set_option maxRecDepth 100000 in
theorem xm_kl0 : (((xm_rw 154).drop 0).take 32).all (xm_ochk 154) = true := xm_allF rfl (by decide +kernel)
set_option maxRecDepth 100000 in
theorem xm_kl1 : (((xm_rw 154).drop 32).take 32).all (xm_ochk 154) = true := xm_allF rfl (by decide +kernel)
set_option maxRecDepth 100000 in
theorem xm_kl2 : (((xm_rw 154).drop 64).take 32).all (xm_ochk 154) = true := xm_allF rfl (by decide +kernel)
set_option maxRecDepth 100000 in
theorem xm_kl3 : (((xm_rw 154).drop 96).take 32).all (xm_ochk 154) = true := xm_allF rfl (by decide +kernel)
set_option maxRecDepth 100000 in
theorem xm_kl4 : (((xm_rw 154).drop 128).take 32).all (xm_ochk 154) = true := xm_allF rfl (by decide +kernel)
set_option maxRecDepth 100000 in
theorem xm_kl5 : (((xm_rw 154).drop 160).take 32).all (xm_ochk 154) = true := xm_allF rfl (by decide +kernel)
set_option maxRecDepth 100000 in
theorem xm_kl6 : (((xm_rw 154).drop 192).take 32).all (xm_ochk 154) = true := xm_allF rfl (by decide +kernel)
set_option maxRecDepth 100000 in
theorem xm_kl7 : (((xm_rw 154).drop 224).take 32).all (xm_ochk 154) = true := xm_allF rfl (by decide +kernel)
set_option maxRecDepth 100000 in
theorem xm_kl8 : (((xm_rw 154).drop 256).take 32).all (xm_ochk 154) = true := xm_allF rfl (by decide +kernel)
set_option maxRecDepth 100000 in
theorem xm_kl9 : (((xm_rw 154).drop 288).take 32).all (xm_ochk 154) = true := xm_allF rfl (by decide +kernel)
set_option maxRecDepth 100000 in
theorem xm_kl10 : (((xm_rw 154).drop 320).take 32).all (xm_ochk 154) = true := xm_allF rfl (by decide +kernel)
set_option maxRecDepth 100000 in
theorem xm_kl11 : (((xm_rw 154).drop 352).take 32).all (xm_ochk 154) = true := xm_allF rfl (by decide +kernel)
set_option maxRecDepth 100000 in
theorem xm_kl12 : (((xm_rw 154).drop 384).take 32).all (xm_ochk 154) = true := xm_allF rfl (by decide +kernel)
set_option maxRecDepth 100000 in
theorem xm_kl13 : (((xm_rw 154).drop 416).take 32).all (xm_ochk 154) = true := xm_allF rfl (by decide +kernel)
set_option maxRecDepth 100000 in
theorem xm_kl14 : (((xm_rw 154).drop 448).take 32).all (xm_ochk 154) = true := xm_allF rfl (by decide +kernel)
set_option maxRecDepth 100000 in
theorem xm_kl15 : (((xm_rw 154).drop 480).take 32).all (xm_ochk 154) = true := xm_allF rfl (by decide +kernel)
set_option maxRecDepth 100000 in
theorem xm_kl16 : (((xm_rw 154).drop 512).take 32).all (xm_ochk 154) = true := xm_allF rfl (by decide +kernel)
set_option maxRecDepth 100000 in
theorem xm_kl17 : (((xm_rw 154).drop 544).take 32).all (xm_ochk 154) = true := xm_allF rfl (by decide +kernel)
set_option maxRecDepth 100000 in
theorem xm_kl18 : (((xm_rw 154).drop 576).take 32).all (xm_ochk 154) = true := xm_allF rfl (by decide +kernel)
set_option maxRecDepth 100000 in
theorem xm_kl19 : (((xm_rw 154).drop 608).take 32).all (xm_ochk 154) = true := xm_allF rfl (by decide +kernel)
set_option maxRecDepth 100000 in
theorem xm_kl20 : (((xm_rw 154).drop 640).take 32).all (xm_ochk 154) = true := xm_allF rfl (by decide +kernel)
set_option maxRecDepth 100000 in
theorem xm_km21 : ((xm_rw 154).drop 672).all (xm_ochk 154) = true := xm_allF rfl (by decide +kernel)
theorem xm_km20 : ((xm_rw 154).drop 640).all (xm_ochk 154) = true := xm_chn (a := 640) (b := 32) xm_kl20 xm_km21
theorem xm_km19 : ((xm_rw 154).drop 608).all (xm_ochk 154) = true := xm_chn (a := 608) (b := 32) xm_kl19 xm_km20
theorem xm_km18 : ((xm_rw 154).drop 576).all (xm_ochk 154) = true := xm_chn (a := 576) (b := 32) xm_kl18 xm_km19
theorem xm_km17 : ((xm_rw 154).drop 544).all (xm_ochk 154) = true := xm_chn (a := 544) (b := 32) xm_kl17 xm_km18
theorem xm_km16 : ((xm_rw 154).drop 512).all (xm_ochk 154) = true := xm_chn (a := 512) (b := 32) xm_kl16 xm_km17
theorem xm_km15 : ((xm_rw 154).drop 480).all (xm_ochk 154) = true := xm_chn (a := 480) (b := 32) xm_kl15 xm_km16
theorem xm_km14 : ((xm_rw 154).drop 448).all (xm_ochk 154) = true := xm_chn (a := 448) (b := 32) xm_kl14 xm_km15
theorem xm_km13 : ((xm_rw 154).drop 416).all (xm_ochk 154) = true := xm_chn (a := 416) (b := 32) xm_kl13 xm_km14
theorem xm_km12 : ((xm_rw 154).drop 384).all (xm_ochk 154) = true := xm_chn (a := 384) (b := 32) xm_kl12 xm_km13
theorem xm_km11 : ((xm_rw 154).drop 352).all (xm_ochk 154) = true := xm_chn (a := 352) (b := 32) xm_kl11 xm_km12
theorem xm_km10 : ((xm_rw 154).drop 320).all (xm_ochk 154) = true := xm_chn (a := 320) (b := 32) xm_kl10 xm_km11
theorem xm_km9 : ((xm_rw 154).drop 288).all (xm_ochk 154) = true := xm_chn (a := 288) (b := 32) xm_kl9 xm_km10
theorem xm_km8 : ((xm_rw 154).drop 256).all (xm_ochk 154) = true := xm_chn (a := 256) (b := 32) xm_kl8 xm_km9
theorem xm_km7 : ((xm_rw 154).drop 224).all (xm_ochk 154) = true := xm_chn (a := 224) (b := 32) xm_kl7 xm_km8
theorem xm_km6 : ((xm_rw 154).drop 192).all (xm_ochk 154) = true := xm_chn (a := 192) (b := 32) xm_kl6 xm_km7
theorem xm_km5 : ((xm_rw 154).drop 160).all (xm_ochk 154) = true := xm_chn (a := 160) (b := 32) xm_kl5 xm_km6
theorem xm_km4 : ((xm_rw 154).drop 128).all (xm_ochk 154) = true := xm_chn (a := 128) (b := 32) xm_kl4 xm_km5
theorem xm_km3 : ((xm_rw 154).drop 96).all (xm_ochk 154) = true := xm_chn (a := 96) (b := 32) xm_kl3 xm_km4
theorem xm_km2 : ((xm_rw 154).drop 64).all (xm_ochk 154) = true := xm_chn (a := 64) (b := 32) xm_kl2 xm_km3
theorem xm_km1 : ((xm_rw 154).drop 32).all (xm_ochk 154) = true := xm_chn (a := 32) (b := 32) xm_kl1 xm_km2
theorem xm_km0 : ((xm_rw 154).drop 0).all (xm_ochk 154) = true := xm_chn (a := 0) (b := 32) xm_kl0 xm_km1
theorem xm_k154 : (xm_rw 154).all (xm_ochk 154) = true := xm_km0
