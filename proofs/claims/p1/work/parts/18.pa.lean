set_option maxRecDepth 100000 in
set_option maxHeartbeats 4000000 in
theorem i_doubled_4 (x3 : Int32) : xe_P 802 [(1, 0), (2, 0), (3, x3)] := xe_pth (ds := []) (cs := []) rfl (fun _ h => absurd h List.not_mem_nil)
