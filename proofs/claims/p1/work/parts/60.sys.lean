/-! the contract of each method, out of the small machine -/
set_option maxRecDepth 20000 in
theorem mjcw0 : Jvm.Cond.code mjcM0.1 mjcM0.2.1 mjcM0.2.2.1 mjcM0.2.2.2.1 ∈ mj_WS := mj_mem 357 rfl rfl
set_option maxRecDepth 20000 in
theorem mjcw1 : Jvm.Cond.code mjcM1.1 mjcM1.2.1 mjcM1.2.2.1 mjcM1.2.2.2.1 ∈ mj_WS := mj_mem 365 rfl rfl
set_option maxRecDepth 20000 in
theorem mjcw2 : Jvm.Cond.code mjcM2.1 mjcM2.2.1 mjcM2.2.2.1 mjcM2.2.2.2.1 ∈ mj_WS := mj_mem 416 rfl rfl
set_option maxRecDepth 20000 in
theorem mjcw3 : Jvm.Cond.code mjcM3.1 mjcM3.2.1 mjcM3.2.2.1 mjcM3.2.2.2.1 ∈ mj_WS := mj_mem 944 rfl rfl
set_option maxRecDepth 20000 in
theorem mjcw4 : Jvm.Cond.code mjcM4.1 mjcM4.2.1 mjcM4.2.2.1 mjcM4.2.2.2.1 ∈ mj_WS := mj_mem 373 rfl rfl
set_option maxRecDepth 20000 in
theorem mjcw5 : Jvm.Cond.code mjcM5.1 mjcM5.2.1 mjcM5.2.2.1 mjcM5.2.2.2.1 ∈ mj_WS := mj_mem 498 rfl rfl
set_option maxRecDepth 20000 in
theorem mjcw6 : Jvm.Cond.code mjcM6.1 mjcM6.2.1 mjcM6.2.2.1 mjcM6.2.2.2.1 ∈ mj_WS := mj_mem 586 rfl rfl
set_option maxRecDepth 20000 in
theorem mjcw7 : Jvm.Cond.code mjcM7.1 mjcM7.2.1 mjcM7.2.2.1 mjcM7.2.2.2.1 ∈ mj_WS := mj_mem 654 rfl rfl
set_option maxRecDepth 20000 in
theorem mjcw8 : Jvm.Cond.code mjcM8.1 mjcM8.2.1 mjcM8.2.2.1 mjcM8.2.2.2.1 ∈ mj_WS := mj_mem 616 rfl rfl
set_option maxRecDepth 20000 in
theorem mjcw9 : Jvm.Cond.code mjcM9.1 mjcM9.2.1 mjcM9.2.2.1 mjcM9.2.2.2.1 ∈ mj_WS := mj_mem 612 rfl rfl
set_option maxRecDepth 20000 in
theorem mjcw10 : Jvm.Cond.code mjcM10.1 mjcM10.2.1 mjcM10.2.2.1 mjcM10.2.2.2.1 ∈ mj_WS := mj_mem 385 rfl rfl
set_option maxRecDepth 20000 in
theorem mjcw11 : Jvm.Cond.code mjcM11.1 mjcM11.2.1 mjcM11.2.2.1 mjcM11.2.2.2.1 ∈ mj_WS := mj_mem 915 rfl rfl
set_option maxRecDepth 20000 in
theorem mjcw12 : Jvm.Cond.code mjcM12.1 mjcM12.2.1 mjcM12.2.2.1 mjcM12.2.2.2.1 ∈ mj_WS := mj_mem 919 rfl rfl
set_option maxRecDepth 20000 in
theorem mjcw13 : Jvm.Cond.code mjcM13.1 mjcM13.2.1 mjcM13.2.2.1 mjcM13.2.2.2.1 ∈ mj_WS := mj_mem 85 rfl rfl
set_option maxRecDepth 20000 in
theorem mjcw14 : Jvm.Cond.code mjcM14.1 mjcM14.2.1 mjcM14.2.2.1 mjcM14.2.2.2.1 ∈ mj_WS := mj_mem 89 rfl rfl
set_option maxRecDepth 20000 in
theorem mjcw15 : Jvm.Cond.code mjcM15.1 mjcM15.2.1 mjcM15.2.2.1 mjcM15.2.2.2.1 ∈ mj_WS := mj_mem 94 rfl rfl
set_option maxRecDepth 20000 in
theorem mjcw16 : Jvm.Cond.code mjcM16.1 mjcM16.2.1 mjcM16.2.2.1 mjcM16.2.2.2.1 ∈ mj_WS := mj_mem 389 rfl rfl
set_option maxRecDepth 20000 in
theorem mjcw17 : Jvm.Cond.code mjcM17.1 mjcM17.2.1 mjcM17.2.2.1 mjcM17.2.2.2.1 ∈ mj_WS := mj_mem 393 rfl rfl
set_option maxRecDepth 20000 in
theorem mjcw18 : Jvm.Cond.code mjcM18.1 mjcM18.2.1 mjcM18.2.2.1 mjcM18.2.2.2.1 ∈ mj_WS := mj_mem 397 rfl rfl
set_option maxRecDepth 20000 in
theorem mjcw19 : Jvm.Cond.code mjcM19.1 mjcM19.2.1 mjcM19.2.2.1 mjcM19.2.2.2.1 ∈ mj_WS := mj_mem 851 rfl rfl
set_option maxRecDepth 20000 in
theorem mjcw20 : Jvm.Cond.code mjcM20.1 mjcM20.2.1 mjcM20.2.2.1 mjcM20.2.2.2.1 ∈ mj_WS := mj_mem 590 rfl rfl
set_option maxRecDepth 20000 in
theorem mjcw21 : Jvm.Cond.code mjcM21.1 mjcM21.2.1 mjcM21.2.2.1 mjcM21.2.2.2.1 ∈ mj_WS := mj_mem 604 rfl rfl
set_option maxRecDepth 20000 in
theorem mjcw22 : Jvm.Cond.code mjcM22.1 mjcM22.2.1 mjcM22.2.2.1 mjcM22.2.2.2.1 ∈ mj_WS := mj_mem 600 rfl rfl
set_option maxRecDepth 20000 in
theorem mjcw23 : Jvm.Cond.code mjcM23.1 mjcM23.2.1 mjcM23.2.2.1 mjcM23.2.2.2.1 ∈ mj_WS := mj_mem 609 rfl rfl
set_option maxRecDepth 20000 in
theorem mjcw24 : Jvm.Cond.code mjcM24.1 mjcM24.2.1 mjcM24.2.2.1 mjcM24.2.2.2.1 ∈ mj_WS := mj_mem 555 rfl rfl
set_option maxRecDepth 20000 in
theorem mjcw25 : Jvm.Cond.code mjcM25.1 mjcM25.2.1 mjcM25.2.2.1 mjcM25.2.2.2.1 ∈ mj_WS := mj_mem 546 rfl rfl
set_option maxRecDepth 20000 in
theorem mjcw26 : Jvm.Cond.code mjcM26.1 mjcM26.2.1 mjcM26.2.2.1 mjcM26.2.2.2.1 ∈ mj_WS := mj_mem 928 rfl rfl
set_option maxRecDepth 20000 in
theorem mjcw27 : Jvm.Cond.code mjcM27.1 mjcM27.2.1 mjcM27.2.2.1 mjcM27.2.2.2.1 ∈ mj_WS := mj_mem 826 rfl rfl
set_option maxRecDepth 20000 in
theorem mjcw28 : Jvm.Cond.code mjcM28.1 mjcM28.2.1 mjcM28.2.2.1 mjcM28.2.2.2.1 ∈ mj_WS := mj_mem 842 rfl rfl
set_option maxRecDepth 20000 in
theorem mjcw29 : Jvm.Cond.code mjcM29.1 mjcM29.2.1 mjcM29.2.2.1 mjcM29.2.2.2.1 ∈ mj_WS := mj_mem 830 rfl rfl
set_option maxRecDepth 20000 in
theorem mjcw30 : Jvm.Cond.code mjcM30.1 mjcM30.2.1 mjcM30.2.2.1 mjcM30.2.2.2.1 ∈ mj_WS := mj_mem 834 rfl rfl
set_option maxRecDepth 20000 in
theorem mjcw31 : Jvm.Cond.code mjcM31.1 mjcM31.2.1 mjcM31.2.2.1 mjcM31.2.2.2.1 ∈ mj_WS := mj_mem 838 rfl rfl
set_option maxRecDepth 20000 in
theorem mjcw32 : Jvm.Cond.code mjcM32.1 mjcM32.2.1 mjcM32.2.2.1 mjcM32.2.2.2.1 ∈ mj_WS := mj_mem 728 rfl rfl
set_option maxRecDepth 20000 in
theorem mjcw33 : Jvm.Cond.code mjcM33.1 mjcM33.2.1 mjcM33.2.2.1 mjcM33.2.2.2.1 ∈ mj_WS := mj_mem 733 rfl rfl
set_option maxRecDepth 20000 in
theorem mjcw34 : Jvm.Cond.code mjcM34.1 mjcM34.2.1 mjcM34.2.2.1 mjcM34.2.2.2.1 ∈ mj_WS := mj_mem 361 rfl rfl
set_option maxRecDepth 20000 in
theorem mjcw35 : Jvm.Cond.code mjcM35.1 mjcM35.2.1 mjcM35.2.2.1 mjcM35.2.2.2.1 ∈ mj_WS := mj_mem 369 rfl rfl
set_option maxRecDepth 20000 in
theorem mjcw36 : Jvm.Cond.code mjcM36.1 mjcM36.2.1 mjcM36.2.2.1 mjcM36.2.2.2.1 ∈ mj_WS := mj_mem 494 rfl rfl
set_option maxRecDepth 20000 in
theorem mjcw37 : Jvm.Cond.code mjcM37.1 mjcM37.2.1 mjcM37.2.2.1 mjcM37.2.2.2.1 ∈ mj_WS := mj_mem 502 rfl rfl
set_option maxRecDepth 20000 in
theorem mjcw38 : Jvm.Cond.code mjcM38.1 mjcM38.2.1 mjcM38.2.2.1 mjcM38.2.2.2.1 ∈ mj_WS := mj_mem 514 rfl rfl
set_option maxRecDepth 20000 in
theorem mjcw39 : Jvm.Cond.code mjcM39.1 mjcM39.2.1 mjcM39.2.2.1 mjcM39.2.2.2.1 ∈ mj_WS := mj_mem 518 rfl rfl
set_option maxRecDepth 20000 in
theorem mjcw40 : Jvm.Cond.code mjcM40.1 mjcM40.2.1 mjcM40.2.2.1 mjcM40.2.2.2.1 ∈ mj_WS := mj_mem 526 rfl rfl
set_option maxRecDepth 20000 in
theorem mjcw41 : Jvm.Cond.code mjcM41.1 mjcM41.2.1 mjcM41.2.2.1 mjcM41.2.2.2.1 ∈ mj_WS := mj_mem 551 rfl rfl
set_option maxRecDepth 20000 in
theorem mjcw42 : Jvm.Cond.code mjcM42.1 mjcM42.2.1 mjcM42.2.2.1 mjcM42.2.2.2.1 ∈ mj_WS := mj_mem 542 rfl rfl
set_option maxRecDepth 20000 in
theorem mjcw43 : Jvm.Cond.code mjcM43.1 mjcM43.2.1 mjcM43.2.2.1 mjcM43.2.2.2.1 ∈ mj_WS := mj_mem 559 rfl rfl
set_option maxRecDepth 20000 in
theorem mjcw44 : Jvm.Cond.code mjcM44.1 mjcM44.2.1 mjcM44.2.2.1 mjcM44.2.2.2.1 ∈ mj_WS := mj_mem 564 rfl rfl
set_option maxRecDepth 20000 in
theorem mjcw45 : Jvm.Cond.code mjcM45.1 mjcM45.2.1 mjcM45.2.2.1 mjcM45.2.2.2.1 ∈ mj_WS := mj_mem 571 rfl rfl
set_option maxRecDepth 20000 in
theorem mjcw46 : Jvm.Cond.code mjcM46.1 mjcM46.2.1 mjcM46.2.2.1 mjcM46.2.2.2.1 ∈ mj_WS := mj_mem 578 rfl rfl
set_option maxRecDepth 20000 in
theorem mjcw47 : Jvm.Cond.code mjcM47.1 mjcM47.2.1 mjcM47.2.2.1 mjcM47.2.2.2.1 ∈ mj_WS := mj_mem 535 rfl rfl
set_option maxRecDepth 20000 in
theorem mjcw48 : Jvm.Cond.code mjcM48.1 mjcM48.2.1 mjcM48.2.2.1 mjcM48.2.2.2.1 ∈ mj_WS := mj_mem 506 rfl rfl
set_option maxRecDepth 20000 in
theorem mjcw49 : Jvm.Cond.code mjcM49.1 mjcM49.2.1 mjcM49.2.2.1 mjcM49.2.2.2.1 ∈ mj_WS := mj_mem 522 rfl rfl
set_option maxRecDepth 20000 in
theorem mjcw50 : Jvm.Cond.code mjcM50.1 mjcM50.2.1 mjcM50.2.2.1 mjcM50.2.2.2.1 ∈ mj_WS := mj_mem 531 rfl rfl
set_option maxRecDepth 20000 in
theorem mjcw51 : Jvm.Cond.code mjcM51.1 mjcM51.2.1 mjcM51.2.2.1 mjcM51.2.2.2.1 ∈ mj_WS := mj_mem 538 rfl rfl
set_option maxRecDepth 20000 in
theorem mjcw52 : Jvm.Cond.code mjcM52.1 mjcM52.2.1 mjcM52.2.2.1 mjcM52.2.2.2.1 ∈ mj_WS := mj_mem 567 rfl rfl
set_option maxRecDepth 20000 in
theorem mjcw53 : Jvm.Cond.code mjcM53.1 mjcM53.2.1 mjcM53.2.2.1 mjcM53.2.2.2.1 ∈ mj_WS := mj_mem 581 rfl rfl
set_option maxRecDepth 20000 in
theorem mjcw54 : Jvm.Cond.code mjcM54.1 mjcM54.2.1 mjcM54.2.2.1 mjcM54.2.2.2.1 ∈ mj_WS := mj_mem 510 rfl rfl
set_option maxRecDepth 20000 in
theorem mjcw55 : Jvm.Cond.code mjcM55.1 mjcM55.2.1 mjcM55.2.2.1 mjcM55.2.2.2.1 ∈ mj_WS := mj_mem 932 rfl rfl
set_option maxRecDepth 20000 in
theorem mjcw56 : Jvm.Cond.code mjcM56.1 mjcM56.2.1 mjcM56.2.2.1 mjcM56.2.2.2.1 ∈ mj_WS := mj_mem 743 rfl rfl
set_option maxRecDepth 20000 in
theorem mjcw57 : Jvm.Cond.code mjcM57.1 mjcM57.2.1 mjcM57.2.2.1 mjcM57.2.2.2.1 ∈ mj_WS := mj_mem 747 rfl rfl
set_option maxRecDepth 20000 in
theorem mjcw58 : Jvm.Cond.code mjcM58.1 mjcM58.2.1 mjcM58.2.2.1 mjcM58.2.2.2.1 ∈ mj_WS := mj_mem 751 rfl rfl
set_option maxRecDepth 20000 in
theorem mjcw59 : Jvm.Cond.code mjcM59.1 mjcM59.2.1 mjcM59.2.2.1 mjcM59.2.2.2.1 ∈ mj_WS := mj_mem 647 rfl rfl
set_option maxRecDepth 20000 in
theorem mjcw60 : Jvm.Cond.code mjcM60.1 mjcM60.2.1 mjcM60.2.2.1 mjcM60.2.2.2.1 ∈ mj_WS := mj_mem 651 rfl rfl
set_option maxRecDepth 20000 in
theorem mjcw61 : Jvm.Cond.code mjcM61.1 mjcM61.2.1 mjcM61.2.2.1 mjcM61.2.2.2.1 ∈ mj_WS := mj_mem 675 rfl rfl
set_option maxRecDepth 20000 in
theorem mjcw62 : Jvm.Cond.code mjcM62.1 mjcM62.2.1 mjcM62.2.2.1 mjcM62.2.2.2.1 ∈ mj_WS := mj_mem 713 rfl rfl
set_option maxRecDepth 20000 in
theorem mjcw63 : Jvm.Cond.code mjcM63.1 mjcM63.2.1 mjcM63.2.2.1 mjcM63.2.2.2.1 ∈ mj_WS := mj_mem 596 rfl rfl
set_option maxRecDepth 20000 in
theorem mjcw64 : Jvm.Cond.code mjcM64.1 mjcM64.2.1 mjcM64.2.2.1 mjcM64.2.2.2.1 ∈ mj_WS := mj_mem 622 rfl rfl
set_option maxRecDepth 20000 in
theorem mjcw65 : Jvm.Cond.code mjcM65.1 mjcM65.2.1 mjcM65.2.2.1 mjcM65.2.2.2.1 ∈ mj_WS := mj_mem 627 rfl rfl
set_option maxRecDepth 20000 in
theorem mjcw66 : Jvm.Cond.code mjcM66.1 mjcM66.2.1 mjcM66.2.2.1 mjcM66.2.2.2.1 ∈ mj_WS := mj_mem 630 rfl rfl
set_option maxRecDepth 20000 in
theorem mjcw67 : Jvm.Cond.code mjcM67.1 mjcM67.2.1 mjcM67.2.2.1 mjcM67.2.2.2.1 ∈ mj_WS := mj_mem 639 rfl rfl
set_option maxRecDepth 20000 in
theorem mjcw68 : Jvm.Cond.code mjcM68.1 mjcM68.2.1 mjcM68.2.2.1 mjcM68.2.2.2.1 ∈ mj_WS := mj_mem 643 rfl rfl
set_option maxRecDepth 20000 in
theorem mjcw69 : Jvm.Cond.code mjcM69.1 mjcM69.2.1 mjcM69.2.2.1 mjcM69.2.2.2.1 ∈ mj_WS := mj_mem 659 rfl rfl
set_option maxRecDepth 20000 in
theorem mjcw70 : Jvm.Cond.code mjcM70.1 mjcM70.2.1 mjcM70.2.2.1 mjcM70.2.2.2.1 ∈ mj_WS := mj_mem 663 rfl rfl
set_option maxRecDepth 20000 in
theorem mjcw71 : Jvm.Cond.code mjcM71.1 mjcM71.2.1 mjcM71.2.2.1 mjcM71.2.2.2.1 ∈ mj_WS := mj_mem 695 rfl rfl
set_option maxRecDepth 20000 in
theorem mjcw72 : Jvm.Cond.code mjcM72.1 mjcM72.2.1 mjcM72.2.2.1 mjcM72.2.2.2.1 ∈ mj_WS := mj_mem 699 rfl rfl
set_option maxRecDepth 20000 in
theorem mjcw73 : Jvm.Cond.code mjcM73.1 mjcM73.2.1 mjcM73.2.2.1 mjcM73.2.2.2.1 ∈ mj_WS := mj_mem 703 rfl rfl
set_option maxRecDepth 20000 in
theorem mjcw74 : Jvm.Cond.code mjcM74.1 mjcM74.2.1 mjcM74.2.2.1 mjcM74.2.2.2.1 ∈ mj_WS := mj_mem 667 rfl rfl
set_option maxRecDepth 20000 in
theorem mjcw75 : Jvm.Cond.code mjcM75.1 mjcM75.2.1 mjcM75.2.2.1 mjcM75.2.2.2.1 ∈ mj_WS := mj_mem 707 rfl rfl
set_option maxRecDepth 20000 in
theorem mjcw76 : Jvm.Cond.code mjcM76.1 mjcM76.2.1 mjcM76.2.2.1 mjcM76.2.2.2.1 ∈ mj_WS := mj_mem 671 rfl rfl
set_option maxRecDepth 20000 in
theorem mjcw77 : Jvm.Cond.code mjcM77.1 mjcM77.2.1 mjcM77.2.2.1 mjcM77.2.2.2.1 ∈ mj_WS := mj_mem 679 rfl rfl
set_option maxRecDepth 20000 in
theorem mjcw78 : Jvm.Cond.code mjcM78.1 mjcM78.2.1 mjcM78.2.2.1 mjcM78.2.2.2.1 ∈ mj_WS := mj_mem 683 rfl rfl
set_option maxRecDepth 20000 in
theorem mjcw79 : Jvm.Cond.code mjcM79.1 mjcM79.2.1 mjcM79.2.2.1 mjcM79.2.2.2.1 ∈ mj_WS := mj_mem 687 rfl rfl
set_option maxRecDepth 20000 in
theorem mjcw80 : Jvm.Cond.code mjcM80.1 mjcM80.2.1 mjcM80.2.2.1 mjcM80.2.2.2.1 ∈ mj_WS := mj_mem 691 rfl rfl
set_option maxRecDepth 20000 in
theorem mjcw81 : Jvm.Cond.code mjcM81.1 mjcM81.2.1 mjcM81.2.2.1 mjcM81.2.2.2.1 ∈ mj_WS := mj_mem 381 rfl rfl
set_option maxRecDepth 20000 in
theorem mjcw82 : Jvm.Cond.code mjcM82.1 mjcM82.2.1 mjcM82.2.2.1 mjcM82.2.2.2.1 ∈ mj_WS := mj_mem 717 rfl rfl
set_option maxRecDepth 20000 in
theorem mjcw83 : Jvm.Cond.code mjcM83.1 mjcM83.2.1 mjcM83.2.2.1 mjcM83.2.2.2.1 ∈ mj_WS := mj_mem 723 rfl rfl
set_option maxRecDepth 20000 in
theorem mjcw84 : Jvm.Cond.code mjcM84.1 mjcM84.2.1 mjcM84.2.2.1 mjcM84.2.2.2.1 ∈ mj_WS := mj_mem 801 rfl rfl
set_option maxRecDepth 20000 in
theorem mjcw85 : Jvm.Cond.code mjcM85.1 mjcM85.2.1 mjcM85.2.2.1 mjcM85.2.2.2.1 ∈ mj_WS := mj_mem 809 rfl rfl
set_option maxRecDepth 20000 in
theorem mjcw86 : Jvm.Cond.code mjcM86.1 mjcM86.2.1 mjcM86.2.2.1 mjcM86.2.2.2.1 ∈ mj_WS := mj_mem 401 rfl rfl
set_option maxRecDepth 20000 in
theorem mjcw87 : Jvm.Cond.code mjcM87.1 mjcM87.2.1 mjcM87.2.2.1 mjcM87.2.2.2.1 ∈ mj_WS := mj_mem 405 rfl rfl
set_option maxRecDepth 20000 in
theorem mjcw88 : Jvm.Cond.code mjcM88.1 mjcM88.2.1 mjcM88.2.2.1 mjcM88.2.2.2.1 ∈ mj_WS := mj_mem 877 rfl rfl
set_option maxRecDepth 20000 in
theorem mjcw89 : Jvm.Cond.code mjcM89.1 mjcM89.2.1 mjcM89.2.2.1 mjcM89.2.2.2.1 ∈ mj_WS := mj_mem 490 rfl rfl
set_option maxRecDepth 20000 in
theorem mjcw90 : Jvm.Cond.code mjcM90.1 mjcM90.2.1 mjcM90.2.2.1 mjcM90.2.2.2.1 ∈ mj_WS := mj_mem 738 rfl rfl
set_option maxRecDepth 20000 in
theorem mjcw91 : Jvm.Cond.code mjcM91.1 mjcM91.2.1 mjcM91.2.2.1 mjcM91.2.2.2.1 ∈ mj_WS := mj_mem 755 rfl rfl
set_option maxRecDepth 20000 in
theorem mjcw92 : Jvm.Cond.code mjcM92.1 mjcM92.2.1 mjcM92.2.2.1 mjcM92.2.2.2.1 ∈ mj_WS := mj_mem 759 rfl rfl
set_option maxRecDepth 20000 in
theorem mjcw93 : Jvm.Cond.code mjcM93.1 mjcM93.2.1 mjcM93.2.2.1 mjcM93.2.2.2.1 ∈ mj_WS := mj_mem 763 rfl rfl
set_option maxRecDepth 20000 in
theorem mjcw94 : Jvm.Cond.code mjcM94.1 mjcM94.2.1 mjcM94.2.2.1 mjcM94.2.2.2.1 ∈ mj_WS := mj_mem 780 rfl rfl
set_option maxRecDepth 20000 in
theorem mjcw95 : Jvm.Cond.code mjcM95.1 mjcM95.2.1 mjcM95.2.2.1 mjcM95.2.2.2.1 ∈ mj_WS := mj_mem 767 rfl rfl
set_option maxRecDepth 20000 in
theorem mjcw96 : Jvm.Cond.code mjcM96.1 mjcM96.2.1 mjcM96.2.2.1 mjcM96.2.2.2.1 ∈ mj_WS := mj_mem 793 rfl rfl
set_option maxRecDepth 20000 in
theorem mjcw97 : Jvm.Cond.code mjcM97.1 mjcM97.2.1 mjcM97.2.2.1 mjcM97.2.2.2.1 ∈ mj_WS := mj_mem 772 rfl rfl
set_option maxRecDepth 20000 in
theorem mjcw98 : Jvm.Cond.code mjcM98.1 mjcM98.2.1 mjcM98.2.2.1 mjcM98.2.2.2.1 ∈ mj_WS := mj_mem 776 rfl rfl
set_option maxRecDepth 20000 in
theorem mjcw99 : Jvm.Cond.code mjcM99.1 mjcM99.2.1 mjcM99.2.2.1 mjcM99.2.2.2.1 ∈ mj_WS := mj_mem 789 rfl rfl
set_option maxRecDepth 20000 in
theorem mjcw100 : Jvm.Cond.code mjcM100.1 mjcM100.2.1 mjcM100.2.2.1 mjcM100.2.2.2.1 ∈ mj_WS := mj_mem 784 rfl rfl
set_option maxRecDepth 20000 in
theorem mjcw101 : Jvm.Cond.code mjcM101.1 mjcM101.2.1 mjcM101.2.2.1 mjcM101.2.2.2.1 ∈ mj_WS := mj_mem 822 rfl rfl
set_option maxRecDepth 20000 in
theorem mjcw102 : Jvm.Cond.code mjcM102.1 mjcM102.2.1 mjcM102.2.2.1 mjcM102.2.2.2.1 ∈ mj_WS := mj_mem 868 rfl rfl
set_option maxRecDepth 20000 in
theorem mjcw103 : Jvm.Cond.code mjcM103.1 mjcM103.2.1 mjcM103.2.2.1 mjcM103.2.2.2.1 ∈ mj_WS := mj_mem 854 rfl rfl
set_option maxRecDepth 20000 in
theorem mjcw104 : Jvm.Cond.code mjcM104.1 mjcM104.2.1 mjcM104.2.2.1 mjcM104.2.2.2.1 ∈ mj_WS := mj_mem 862 rfl rfl
set_option maxRecDepth 20000 in
theorem mjcw105 : Jvm.Cond.code mjcM105.1 mjcM105.2.1 mjcM105.2.2.1 mjcM105.2.2.2.1 ∈ mj_WS := mj_mem 859 rfl rfl
set_option maxRecDepth 20000 in
theorem mjcw106 : Jvm.Cond.code mjcM106.1 mjcM106.2.1 mjcM106.2.2.1 mjcM106.2.2.2.1 ∈ mj_WS := mj_mem 846 rfl rfl
set_option maxRecDepth 20000 in
theorem mjcw107 : Jvm.Cond.code mjcM107.1 mjcM107.2.1 mjcM107.2.2.1 mjcM107.2.2.2.1 ∈ mj_WS := mj_mem 797 rfl rfl
set_option maxRecDepth 20000 in
theorem mjcw108 : Jvm.Cond.code mjcM108.1 mjcM108.2.1 mjcM108.2.2.1 mjcM108.2.2.2.1 ∈ mj_WS := mj_mem 813 rfl rfl
set_option maxRecDepth 20000 in
theorem mjcw109 : Jvm.Cond.code mjcM109.1 mjcM109.2.1 mjcM109.2.2.1 mjcM109.2.2.2.1 ∈ mj_WS := mj_mem 805 rfl rfl
set_option maxRecDepth 20000 in
theorem mjcw110 : Jvm.Cond.code mjcM110.1 mjcM110.2.1 mjcM110.2.2.1 mjcM110.2.2.2.1 ∈ mj_WS := mj_mem 818 rfl rfl
set_option maxRecDepth 20000 in
theorem mjcw111 : Jvm.Cond.code mjcM111.1 mjcM111.2.1 mjcM111.2.2.1 mjcM111.2.2.2.1 ∈ mj_WS := mj_mem 377 rfl rfl
set_option maxRecDepth 20000 in
theorem mjcw112 : Jvm.Cond.code mjcM112.1 mjcM112.2.1 mjcM112.2.2.1 mjcM112.2.2.2.1 ∈ mj_WS := mj_mem 964 rfl rfl
set_option maxRecDepth 20000 in
theorem mjcw113 : Jvm.Cond.code mjcM113.1 mjcM113.2.1 mjcM113.2.2.1 mjcM113.2.2.2.1 ∈ mj_WS := mj_mem 486 rfl rfl
set_option maxRecDepth 20000 in
theorem mjcw114 : Jvm.Cond.code mjcM114.1 mjcM114.2.1 mjcM114.2.2.1 mjcM114.2.2.2.1 ∈ mj_WS := mj_mem 936 rfl rfl
set_option maxRecDepth 20000 in
theorem mjcw115 : Jvm.Cond.code mjcM115.1 mjcM115.2.1 mjcM115.2.2.1 mjcM115.2.2.2.1 ∈ mj_WS := mj_mem 881 rfl rfl
set_option maxRecDepth 20000 in
theorem mjcw116 : Jvm.Cond.code mjcM116.1 mjcM116.2.1 mjcM116.2.2.1 mjcM116.2.2.2.1 ∈ mj_WS := mj_mem 885 rfl rfl
set_option maxRecDepth 20000 in
theorem mjcw117 : Jvm.Cond.code mjcM117.1 mjcM117.2.1 mjcM117.2.2.1 mjcM117.2.2.2.1 ∈ mj_WS := mj_mem 890 rfl rfl
set_option maxRecDepth 20000 in
theorem mjcw118 : Jvm.Cond.code mjcM118.1 mjcM118.2.1 mjcM118.2.2.1 mjcM118.2.2.2.1 ∈ mj_WS := mj_mem 923 rfl rfl
set_option maxRecDepth 20000 in
theorem mjcw119 : Jvm.Cond.code mjcM119.1 mjcM119.2.1 mjcM119.2.2.1 mjcM119.2.2.2.1 ∈ mj_WS := mj_mem 899 rfl rfl
set_option maxRecDepth 20000 in
theorem mjcw120 : Jvm.Cond.code mjcM120.1 mjcM120.2.1 mjcM120.2.2.1 mjcM120.2.2.2.1 ∈ mj_WS := mj_mem 905 rfl rfl
set_option maxRecDepth 20000 in
theorem mjcw121 : Jvm.Cond.code mjcM121.1 mjcM121.2.1 mjcM121.2.2.1 mjcM121.2.2.2.1 ∈ mj_WS := mj_mem 910 rfl rfl
set_option maxRecDepth 20000 in
theorem mjcw122 : Jvm.Cond.code mjcM122.1 mjcM122.2.1 mjcM122.2.2.1 mjcM122.2.2.2.1 ∈ mj_WS := mj_mem 895 rfl rfl
set_option maxRecDepth 100000 in
theorem mjc_ok : ∀ M ∈ mjc_Ms, (plainName M.1.cls = true ∧ ∀ (pc : Nat) (o : mj_O), M.2.2.2.2[pc]? = some o → mj_is mj_kl M.1.cls mj_WS mj_NWs mjc_Ms M.2.1 pc o) ∧ Jvm.Cond.code M.1 M.2.1 M.2.2.1 M.2.2.2.1 ∈ mj_WS := by
  unfold mjc_Ms
  refine List.forall_mem_cons.mpr ⟨⟨⟨by decide, mjci0⟩, mjcw0⟩, ?_⟩
  refine List.forall_mem_cons.mpr ⟨⟨⟨by decide, mjci1⟩, mjcw1⟩, ?_⟩
  refine List.forall_mem_cons.mpr ⟨⟨⟨by decide, mjci2⟩, mjcw2⟩, ?_⟩
  refine List.forall_mem_cons.mpr ⟨⟨⟨by decide, mjci3⟩, mjcw3⟩, ?_⟩
  refine List.forall_mem_cons.mpr ⟨⟨⟨by decide, mjci4⟩, mjcw4⟩, ?_⟩
  refine List.forall_mem_cons.mpr ⟨⟨⟨by decide, mjci5⟩, mjcw5⟩, ?_⟩
  refine List.forall_mem_cons.mpr ⟨⟨⟨by decide, mjci6⟩, mjcw6⟩, ?_⟩
  refine List.forall_mem_cons.mpr ⟨⟨⟨by decide, mjci7⟩, mjcw7⟩, ?_⟩
  refine List.forall_mem_cons.mpr ⟨⟨⟨by decide, mjci8⟩, mjcw8⟩, ?_⟩
  refine List.forall_mem_cons.mpr ⟨⟨⟨by decide, mjci9⟩, mjcw9⟩, ?_⟩
  refine List.forall_mem_cons.mpr ⟨⟨⟨by decide, mjci10⟩, mjcw10⟩, ?_⟩
  refine List.forall_mem_cons.mpr ⟨⟨⟨by decide, mjci11⟩, mjcw11⟩, ?_⟩
  refine List.forall_mem_cons.mpr ⟨⟨⟨by decide, mjci12⟩, mjcw12⟩, ?_⟩
  refine List.forall_mem_cons.mpr ⟨⟨⟨by decide, mjci13⟩, mjcw13⟩, ?_⟩
  refine List.forall_mem_cons.mpr ⟨⟨⟨by decide, mjci14⟩, mjcw14⟩, ?_⟩
  refine List.forall_mem_cons.mpr ⟨⟨⟨by decide, mjci15⟩, mjcw15⟩, ?_⟩
  refine List.forall_mem_cons.mpr ⟨⟨⟨by decide, mjci16⟩, mjcw16⟩, ?_⟩
  refine List.forall_mem_cons.mpr ⟨⟨⟨by decide, mjci17⟩, mjcw17⟩, ?_⟩
  refine List.forall_mem_cons.mpr ⟨⟨⟨by decide, mjci18⟩, mjcw18⟩, ?_⟩
  refine List.forall_mem_cons.mpr ⟨⟨⟨by decide, mjci19⟩, mjcw19⟩, ?_⟩
  refine List.forall_mem_cons.mpr ⟨⟨⟨by decide, mjci20⟩, mjcw20⟩, ?_⟩
  refine List.forall_mem_cons.mpr ⟨⟨⟨by decide, mjci21⟩, mjcw21⟩, ?_⟩
  refine List.forall_mem_cons.mpr ⟨⟨⟨by decide, mjci22⟩, mjcw22⟩, ?_⟩
  refine List.forall_mem_cons.mpr ⟨⟨⟨by decide, mjci23⟩, mjcw23⟩, ?_⟩
  refine List.forall_mem_cons.mpr ⟨⟨⟨by decide, mjci24⟩, mjcw24⟩, ?_⟩
  refine List.forall_mem_cons.mpr ⟨⟨⟨by decide, mjci25⟩, mjcw25⟩, ?_⟩
  refine List.forall_mem_cons.mpr ⟨⟨⟨by decide, mjci26⟩, mjcw26⟩, ?_⟩
  refine List.forall_mem_cons.mpr ⟨⟨⟨by decide, mjci27⟩, mjcw27⟩, ?_⟩
  refine List.forall_mem_cons.mpr ⟨⟨⟨by decide, mjci28⟩, mjcw28⟩, ?_⟩
  refine List.forall_mem_cons.mpr ⟨⟨⟨by decide, mjci29⟩, mjcw29⟩, ?_⟩
  refine List.forall_mem_cons.mpr ⟨⟨⟨by decide, mjci30⟩, mjcw30⟩, ?_⟩
  refine List.forall_mem_cons.mpr ⟨⟨⟨by decide, mjci31⟩, mjcw31⟩, ?_⟩
  refine List.forall_mem_cons.mpr ⟨⟨⟨by decide, mjci32⟩, mjcw32⟩, ?_⟩
  refine List.forall_mem_cons.mpr ⟨⟨⟨by decide, mjci33⟩, mjcw33⟩, ?_⟩
  refine List.forall_mem_cons.mpr ⟨⟨⟨by decide, mjci34⟩, mjcw34⟩, ?_⟩
  refine List.forall_mem_cons.mpr ⟨⟨⟨by decide, mjci35⟩, mjcw35⟩, ?_⟩
  refine List.forall_mem_cons.mpr ⟨⟨⟨by decide, mjci36⟩, mjcw36⟩, ?_⟩
  refine List.forall_mem_cons.mpr ⟨⟨⟨by decide, mjci37⟩, mjcw37⟩, ?_⟩
  refine List.forall_mem_cons.mpr ⟨⟨⟨by decide, mjci38⟩, mjcw38⟩, ?_⟩
  refine List.forall_mem_cons.mpr ⟨⟨⟨by decide, mjci39⟩, mjcw39⟩, ?_⟩
  refine List.forall_mem_cons.mpr ⟨⟨⟨by decide, mjci40⟩, mjcw40⟩, ?_⟩
  refine List.forall_mem_cons.mpr ⟨⟨⟨by decide, mjci41⟩, mjcw41⟩, ?_⟩
  refine List.forall_mem_cons.mpr ⟨⟨⟨by decide, mjci42⟩, mjcw42⟩, ?_⟩
  refine List.forall_mem_cons.mpr ⟨⟨⟨by decide, mjci43⟩, mjcw43⟩, ?_⟩
  refine List.forall_mem_cons.mpr ⟨⟨⟨by decide, mjci44⟩, mjcw44⟩, ?_⟩
  refine List.forall_mem_cons.mpr ⟨⟨⟨by decide, mjci45⟩, mjcw45⟩, ?_⟩
  refine List.forall_mem_cons.mpr ⟨⟨⟨by decide, mjci46⟩, mjcw46⟩, ?_⟩
  refine List.forall_mem_cons.mpr ⟨⟨⟨by decide, mjci47⟩, mjcw47⟩, ?_⟩
  refine List.forall_mem_cons.mpr ⟨⟨⟨by decide, mjci48⟩, mjcw48⟩, ?_⟩
  refine List.forall_mem_cons.mpr ⟨⟨⟨by decide, mjci49⟩, mjcw49⟩, ?_⟩
  refine List.forall_mem_cons.mpr ⟨⟨⟨by decide, mjci50⟩, mjcw50⟩, ?_⟩
  refine List.forall_mem_cons.mpr ⟨⟨⟨by decide, mjci51⟩, mjcw51⟩, ?_⟩
  refine List.forall_mem_cons.mpr ⟨⟨⟨by decide, mjci52⟩, mjcw52⟩, ?_⟩
  refine List.forall_mem_cons.mpr ⟨⟨⟨by decide, mjci53⟩, mjcw53⟩, ?_⟩
  refine List.forall_mem_cons.mpr ⟨⟨⟨by decide, mjci54⟩, mjcw54⟩, ?_⟩
  refine List.forall_mem_cons.mpr ⟨⟨⟨by decide, mjci55⟩, mjcw55⟩, ?_⟩
  refine List.forall_mem_cons.mpr ⟨⟨⟨by decide, mjci56⟩, mjcw56⟩, ?_⟩
  refine List.forall_mem_cons.mpr ⟨⟨⟨by decide, mjci57⟩, mjcw57⟩, ?_⟩
  refine List.forall_mem_cons.mpr ⟨⟨⟨by decide, mjci58⟩, mjcw58⟩, ?_⟩
  refine List.forall_mem_cons.mpr ⟨⟨⟨by decide, mjci59⟩, mjcw59⟩, ?_⟩
  refine List.forall_mem_cons.mpr ⟨⟨⟨by decide, mjci60⟩, mjcw60⟩, ?_⟩
  refine List.forall_mem_cons.mpr ⟨⟨⟨by decide, mjci61⟩, mjcw61⟩, ?_⟩
  refine List.forall_mem_cons.mpr ⟨⟨⟨by decide, mjci62⟩, mjcw62⟩, ?_⟩
  refine List.forall_mem_cons.mpr ⟨⟨⟨by decide, mjci63⟩, mjcw63⟩, ?_⟩
  refine List.forall_mem_cons.mpr ⟨⟨⟨by decide, mjci64⟩, mjcw64⟩, ?_⟩
  refine List.forall_mem_cons.mpr ⟨⟨⟨by decide, mjci65⟩, mjcw65⟩, ?_⟩
  refine List.forall_mem_cons.mpr ⟨⟨⟨by decide, mjci66⟩, mjcw66⟩, ?_⟩
  refine List.forall_mem_cons.mpr ⟨⟨⟨by decide, mjci67⟩, mjcw67⟩, ?_⟩
  refine List.forall_mem_cons.mpr ⟨⟨⟨by decide, mjci68⟩, mjcw68⟩, ?_⟩
  refine List.forall_mem_cons.mpr ⟨⟨⟨by decide, mjci69⟩, mjcw69⟩, ?_⟩
  refine List.forall_mem_cons.mpr ⟨⟨⟨by decide, mjci70⟩, mjcw70⟩, ?_⟩
  refine List.forall_mem_cons.mpr ⟨⟨⟨by decide, mjci71⟩, mjcw71⟩, ?_⟩
  refine List.forall_mem_cons.mpr ⟨⟨⟨by decide, mjci72⟩, mjcw72⟩, ?_⟩
  refine List.forall_mem_cons.mpr ⟨⟨⟨by decide, mjci73⟩, mjcw73⟩, ?_⟩
  refine List.forall_mem_cons.mpr ⟨⟨⟨by decide, mjci74⟩, mjcw74⟩, ?_⟩
  refine List.forall_mem_cons.mpr ⟨⟨⟨by decide, mjci75⟩, mjcw75⟩, ?_⟩
  refine List.forall_mem_cons.mpr ⟨⟨⟨by decide, mjci76⟩, mjcw76⟩, ?_⟩
  refine List.forall_mem_cons.mpr ⟨⟨⟨by decide, mjci77⟩, mjcw77⟩, ?_⟩
  refine List.forall_mem_cons.mpr ⟨⟨⟨by decide, mjci78⟩, mjcw78⟩, ?_⟩
  refine List.forall_mem_cons.mpr ⟨⟨⟨by decide, mjci79⟩, mjcw79⟩, ?_⟩
  refine List.forall_mem_cons.mpr ⟨⟨⟨by decide, mjci80⟩, mjcw80⟩, ?_⟩
  refine List.forall_mem_cons.mpr ⟨⟨⟨by decide, mjci81⟩, mjcw81⟩, ?_⟩
  refine List.forall_mem_cons.mpr ⟨⟨⟨by decide, mjci82⟩, mjcw82⟩, ?_⟩
  refine List.forall_mem_cons.mpr ⟨⟨⟨by decide, mjci83⟩, mjcw83⟩, ?_⟩
  refine List.forall_mem_cons.mpr ⟨⟨⟨by decide, mjci84⟩, mjcw84⟩, ?_⟩
  refine List.forall_mem_cons.mpr ⟨⟨⟨by decide, mjci85⟩, mjcw85⟩, ?_⟩
  refine List.forall_mem_cons.mpr ⟨⟨⟨by decide, mjci86⟩, mjcw86⟩, ?_⟩
  refine List.forall_mem_cons.mpr ⟨⟨⟨by decide, mjci87⟩, mjcw87⟩, ?_⟩
  refine List.forall_mem_cons.mpr ⟨⟨⟨by decide, mjci88⟩, mjcw88⟩, ?_⟩
  refine List.forall_mem_cons.mpr ⟨⟨⟨by decide, mjci89⟩, mjcw89⟩, ?_⟩
  refine List.forall_mem_cons.mpr ⟨⟨⟨by decide, mjci90⟩, mjcw90⟩, ?_⟩
  refine List.forall_mem_cons.mpr ⟨⟨⟨by decide, mjci91⟩, mjcw91⟩, ?_⟩
  refine List.forall_mem_cons.mpr ⟨⟨⟨by decide, mjci92⟩, mjcw92⟩, ?_⟩
  refine List.forall_mem_cons.mpr ⟨⟨⟨by decide, mjci93⟩, mjcw93⟩, ?_⟩
  refine List.forall_mem_cons.mpr ⟨⟨⟨by decide, mjci94⟩, mjcw94⟩, ?_⟩
  refine List.forall_mem_cons.mpr ⟨⟨⟨by decide, mjci95⟩, mjcw95⟩, ?_⟩
  refine List.forall_mem_cons.mpr ⟨⟨⟨by decide, mjci96⟩, mjcw96⟩, ?_⟩
  refine List.forall_mem_cons.mpr ⟨⟨⟨by decide, mjci97⟩, mjcw97⟩, ?_⟩
  refine List.forall_mem_cons.mpr ⟨⟨⟨by decide, mjci98⟩, mjcw98⟩, ?_⟩
  refine List.forall_mem_cons.mpr ⟨⟨⟨by decide, mjci99⟩, mjcw99⟩, ?_⟩
  refine List.forall_mem_cons.mpr ⟨⟨⟨by decide, mjci100⟩, mjcw100⟩, ?_⟩
  refine List.forall_mem_cons.mpr ⟨⟨⟨by decide, mjci101⟩, mjcw101⟩, ?_⟩
  refine List.forall_mem_cons.mpr ⟨⟨⟨by decide, mjci102⟩, mjcw102⟩, ?_⟩
  refine List.forall_mem_cons.mpr ⟨⟨⟨by decide, mjci103⟩, mjcw103⟩, ?_⟩
  refine List.forall_mem_cons.mpr ⟨⟨⟨by decide, mjci104⟩, mjcw104⟩, ?_⟩
  refine List.forall_mem_cons.mpr ⟨⟨⟨by decide, mjci105⟩, mjcw105⟩, ?_⟩
  refine List.forall_mem_cons.mpr ⟨⟨⟨by decide, mjci106⟩, mjcw106⟩, ?_⟩
  refine List.forall_mem_cons.mpr ⟨⟨⟨by decide, mjci107⟩, mjcw107⟩, ?_⟩
  refine List.forall_mem_cons.mpr ⟨⟨⟨by decide, mjci108⟩, mjcw108⟩, ?_⟩
  refine List.forall_mem_cons.mpr ⟨⟨⟨by decide, mjci109⟩, mjcw109⟩, ?_⟩
  refine List.forall_mem_cons.mpr ⟨⟨⟨by decide, mjci110⟩, mjcw110⟩, ?_⟩
  refine List.forall_mem_cons.mpr ⟨⟨⟨by decide, mjci111⟩, mjcw111⟩, ?_⟩
  refine List.forall_mem_cons.mpr ⟨⟨⟨by decide, mjci112⟩, mjcw112⟩, ?_⟩
  refine List.forall_mem_cons.mpr ⟨⟨⟨by decide, mjci113⟩, mjcw113⟩, ?_⟩
  refine List.forall_mem_cons.mpr ⟨⟨⟨by decide, mjci114⟩, mjcw114⟩, ?_⟩
  refine List.forall_mem_cons.mpr ⟨⟨⟨by decide, mjci115⟩, mjcw115⟩, ?_⟩
  refine List.forall_mem_cons.mpr ⟨⟨⟨by decide, mjci116⟩, mjcw116⟩, ?_⟩
  refine List.forall_mem_cons.mpr ⟨⟨⟨by decide, mjci117⟩, mjcw117⟩, ?_⟩
  refine List.forall_mem_cons.mpr ⟨⟨⟨by decide, mjci118⟩, mjcw118⟩, ?_⟩
  refine List.forall_mem_cons.mpr ⟨⟨⟨by decide, mjci119⟩, mjcw119⟩, ?_⟩
  refine List.forall_mem_cons.mpr ⟨⟨⟨by decide, mjci120⟩, mjcw120⟩, ?_⟩
  refine List.forall_mem_cons.mpr ⟨⟨⟨by decide, mjci121⟩, mjcw121⟩, ?_⟩
  refine List.forall_mem_cons.mpr ⟨⟨⟨by decide, mjci122⟩, mjcw122⟩, ?_⟩
  intro M hM
  cases hM
theorem mjc_G : ∀ (k : Nat) (M : mj_M), mjc_Ms[k]? = some M → GoodIn mj_WS (Jvm.Cond.code M.1 M.2.1 M.2.2.1 M.2.2.2.1 :: mj_WS) := by
  intro k M hM w hw
  have hin : w ∈ mj_WS := (List.mem_cons.mp hw).elim (fun e => by rw [e]; exact (mjc_ok M (List.mem_of_getElem? hM)).2) (fun e => e)
  exact ⟨hin, good_of_word (List.mem_filter.mp hin).2⟩
theorem mjc_met {l : Launch} {D : va_G} {cA : FieldType → ClassId} {ad : Nat → Nat} (hD : mj_D ad mjc_L) (d k : Nat) (as : List mj_V) (σ : mj_S) (Q : mj_Q) (h : mj_B mjc_L mjc_Ms d k as σ Q) (h1 : mj_okS σ) (h2 : mj_okT as) (M : mj_M) (hM : mjc_Ms[k]? = some M) : Met l M.1 (Jvm.Cond.code M.1 M.2.1 M.2.2.1 M.2.2.2.1 :: mj_WS) (mj_rm d) (mj_Pc D mj_kl cA ad mjc_L mj_NWs as σ) (mj_Qc D mj_kl cA ad mjc_L (mj_A ad mjc_L) Q) 0 0 (mj_A ad mjc_L) :=
  mj_met (fun k M hM => (mjc_ok M (List.mem_of_getElem? hM)).1) mjc_G hD mj_NWs_ok d k as σ Q h h1 h2 M hM
set_option maxRecDepth 20000 in
theorem mjmw0 : Jvm.Cond.code mjmM0.1 mjmM0.2.1 mjmM0.2.2.1 mjmM0.2.2.2.1 ∈ mj_WS := mj_mem 974 rfl rfl
set_option maxRecDepth 20000 in
theorem mjmw1 : Jvm.Cond.code mjmM1.1 mjmM1.2.1 mjmM1.2.2.1 mjmM1.2.2.2.1 ∈ mj_WS := mj_mem 1117 rfl rfl
set_option maxRecDepth 20000 in
theorem mjmw2 : Jvm.Cond.code mjmM2.1 mjmM2.2.1 mjmM2.2.2.1 mjmM2.2.2.2.1 ∈ mj_WS := mj_mem 1149 rfl rfl
set_option maxRecDepth 20000 in
theorem mjmw3 : Jvm.Cond.code mjmM3.1 mjmM3.2.1 mjmM3.2.2.1 mjmM3.2.2.2.1 ∈ mj_WS := mj_mem 1196 rfl rfl
set_option maxRecDepth 20000 in
theorem mjmw4 : Jvm.Cond.code mjmM4.1 mjmM4.2.1 mjmM4.2.2.1 mjmM4.2.2.2.1 ∈ mj_WS := mj_mem 1220 rfl rfl
set_option maxRecDepth 20000 in
theorem mjmw5 : Jvm.Cond.code mjmM5.1 mjmM5.2.1 mjmM5.2.2.1 mjmM5.2.2.2.1 ∈ mj_WS := mj_mem 1200 rfl rfl
set_option maxRecDepth 20000 in
theorem mjmw6 : Jvm.Cond.code mjmM6.1 mjmM6.2.1 mjmM6.2.2.1 mjmM6.2.2.2.1 ∈ mj_WS := mj_mem 1213 rfl rfl
set_option maxRecDepth 20000 in
theorem mjmw7 : Jvm.Cond.code mjmM7.1 mjmM7.2.1 mjmM7.2.2.1 mjmM7.2.2.2.1 ∈ mj_WS := mj_mem 1209 rfl rfl
set_option maxRecDepth 20000 in
theorem mjmw8 : Jvm.Cond.code mjmM8.1 mjmM8.2.1 mjmM8.2.2.1 mjmM8.2.2.2.1 ∈ mj_WS := mj_mem 1217 rfl rfl
set_option maxRecDepth 20000 in
theorem mjmw9 : Jvm.Cond.code mjmM9.1 mjmM9.2.1 mjmM9.2.2.1 mjmM9.2.2.2.1 ∈ mj_WS := mj_mem 1121 rfl rfl
set_option maxRecDepth 20000 in
theorem mjmw10 : Jvm.Cond.code mjmM10.1 mjmM10.2.1 mjmM10.2.2.1 mjmM10.2.2.2.1 ∈ mj_WS := mj_mem 1125 rfl rfl
set_option maxRecDepth 20000 in
theorem mjmw11 : Jvm.Cond.code mjmM11.1 mjmM11.2.1 mjmM11.2.2.1 mjmM11.2.2.2.1 ∈ mj_WS := mj_mem 1137 rfl rfl
set_option maxRecDepth 20000 in
theorem mjmw12 : Jvm.Cond.code mjmM12.1 mjmM12.2.1 mjmM12.2.2.1 mjmM12.2.2.2.1 ∈ mj_WS := mj_mem 1133 rfl rfl
set_option maxRecDepth 20000 in
theorem mjmw13 : Jvm.Cond.code mjmM13.1 mjmM13.2.1 mjmM13.2.2.1 mjmM13.2.2.2.1 ∈ mj_WS := mj_mem 1166 rfl rfl
set_option maxRecDepth 20000 in
theorem mjmw14 : Jvm.Cond.code mjmM14.1 mjmM14.2.1 mjmM14.2.2.1 mjmM14.2.2.2.1 ∈ mj_WS := mj_mem 1169 rfl rfl
set_option maxRecDepth 20000 in
theorem mjmw15 : Jvm.Cond.code mjmM15.1 mjmM15.2.1 mjmM15.2.2.1 mjmM15.2.2.2.1 ∈ mj_WS := mj_mem 1172 rfl rfl
set_option maxRecDepth 20000 in
theorem mjmw16 : Jvm.Cond.code mjmM16.1 mjmM16.2.1 mjmM16.2.2.1 mjmM16.2.2.2.1 ∈ mj_WS := mj_mem 1162 rfl rfl
set_option maxRecDepth 20000 in
theorem mjmw17 : Jvm.Cond.code mjmM17.1 mjmM17.2.1 mjmM17.2.2.1 mjmM17.2.2.2.1 ∈ mj_WS := mj_mem 1179 rfl rfl
set_option maxRecDepth 20000 in
theorem mjmw18 : Jvm.Cond.code mjmM18.1 mjmM18.2.1 mjmM18.2.2.1 mjmM18.2.2.2.1 ∈ mj_WS := mj_mem 1191 rfl rfl
set_option maxRecDepth 20000 in
theorem mjmw19 : Jvm.Cond.code mjmM19.1 mjmM19.2.1 mjmM19.2.2.1 mjmM19.2.2.2.1 ∈ mj_WS := mj_mem 1183 rfl rfl
set_option maxRecDepth 20000 in
theorem mjmw20 : Jvm.Cond.code mjmM20.1 mjmM20.2.1 mjmM20.2.2.1 mjmM20.2.2.2.1 ∈ mj_WS := mj_mem 1145 rfl rfl
set_option maxRecDepth 20000 in
theorem mjmw21 : Jvm.Cond.code mjmM21.1 mjmM21.2.1 mjmM21.2.2.1 mjmM21.2.2.2.1 ∈ mj_WS := mj_mem 1158 rfl rfl
set_option maxRecDepth 20000 in
theorem mjmw22 : Jvm.Cond.code mjmM22.1 mjmM22.2.1 mjmM22.2.2.1 mjmM22.2.2.2.1 ∈ mj_WS := mj_mem 1154 rfl rfl
set_option maxRecDepth 20000 in
theorem mjmw23 : Jvm.Cond.code mjmM23.1 mjmM23.2.1 mjmM23.2.2.1 mjmM23.2.2.2.1 ∈ mj_WS := mj_mem 1187 rfl rfl
set_option maxRecDepth 20000 in
theorem mjmw24 : Jvm.Cond.code mjmM24.1 mjmM24.2.1 mjmM24.2.2.1 mjmM24.2.2.2.1 ∈ mj_WS := mj_mem 1242 rfl rfl
set_option maxRecDepth 20000 in
theorem mjmw25 : Jvm.Cond.code mjmM25.1 mjmM25.2.1 mjmM25.2.2.1 mjmM25.2.2.2.1 ∈ mj_WS := mj_mem 1234 rfl rfl
set_option maxRecDepth 20000 in
theorem mjmw26 : Jvm.Cond.code mjmM26.1 mjmM26.2.1 mjmM26.2.2.1 mjmM26.2.2.2.1 ∈ mj_WS := mj_mem 1250 rfl rfl
set_option maxRecDepth 20000 in
theorem mjmw27 : Jvm.Cond.code mjmM27.1 mjmM27.2.1 mjmM27.2.2.1 mjmM27.2.2.2.1 ∈ mj_WS := mj_mem 1238 rfl rfl
set_option maxRecDepth 20000 in
theorem mjmw28 : Jvm.Cond.code mjmM28.1 mjmM28.2.1 mjmM28.2.2.1 mjmM28.2.2.2.1 ∈ mj_WS := mj_mem 1262 rfl rfl
set_option maxRecDepth 20000 in
theorem mjmw29 : Jvm.Cond.code mjmM29.1 mjmM29.2.1 mjmM29.2.2.1 mjmM29.2.2.2.1 ∈ mj_WS := mj_mem 1246 rfl rfl
set_option maxRecDepth 20000 in
theorem mjmw30 : Jvm.Cond.code mjmM30.1 mjmM30.2.1 mjmM30.2.2.1 mjmM30.2.2.2.1 ∈ mj_WS := mj_mem 1258 rfl rfl
set_option maxRecDepth 20000 in
theorem mjmw31 : Jvm.Cond.code mjmM31.1 mjmM31.2.1 mjmM31.2.2.1 mjmM31.2.2.2.1 ∈ mj_WS := mj_mem 1229 rfl rfl
set_option maxRecDepth 20000 in
theorem mjmw32 : Jvm.Cond.code mjmM32.1 mjmM32.2.1 mjmM32.2.2.1 mjmM32.2.2.2.1 ∈ mj_WS := mj_mem 1254 rfl rfl
set_option maxRecDepth 20000 in
theorem mjmw33 : Jvm.Cond.code mjmM33.1 mjmM33.2.1 mjmM33.2.2.1 mjmM33.2.2.2.1 ∈ mj_WS := mj_mem 1225 rfl rfl
set_option maxRecDepth 20000 in
theorem mjmw34 : Jvm.Cond.code mjmM34.1 mjmM34.2.1 mjmM34.2.2.1 mjmM34.2.2.2.1 ∈ mj_WS := mj_mem 1266 rfl rfl
set_option maxRecDepth 20000 in
theorem mjmw35 : Jvm.Cond.code mjmM35.1 mjmM35.2.1 mjmM35.2.2.1 mjmM35.2.2.2.1 ∈ mj_WS := mj_mem 1205 rfl rfl
set_option maxRecDepth 20000 in
theorem mjmw36 : Jvm.Cond.code mjmM36.1 mjmM36.2.1 mjmM36.2.2.1 mjmM36.2.2.2.1 ∈ mj_WS := mj_mem 1270 rfl rfl
set_option maxRecDepth 20000 in
theorem mjmw37 : Jvm.Cond.code mjmM37.1 mjmM37.2.1 mjmM37.2.2.1 mjmM37.2.2.2.1 ∈ mj_WS := mj_mem 1274 rfl rfl
set_option maxRecDepth 20000 in
theorem mjmw38 : Jvm.Cond.code mjmM38.1 mjmM38.2.1 mjmM38.2.2.1 mjmM38.2.2.2.1 ∈ mj_WS := mj_mem 1290 rfl rfl
set_option maxRecDepth 20000 in
theorem mjmw39 : Jvm.Cond.code mjmM39.1 mjmM39.2.1 mjmM39.2.2.1 mjmM39.2.2.2.1 ∈ mj_WS := mj_mem 1298 rfl rfl
set_option maxRecDepth 20000 in
theorem mjmw40 : Jvm.Cond.code mjmM40.1 mjmM40.2.1 mjmM40.2.2.1 mjmM40.2.2.2.1 ∈ mj_WS := mj_mem 1278 rfl rfl
set_option maxRecDepth 20000 in
theorem mjmw41 : Jvm.Cond.code mjmM41.1 mjmM41.2.1 mjmM41.2.2.1 mjmM41.2.2.2.1 ∈ mj_WS := mj_mem 1282 rfl rfl
set_option maxRecDepth 20000 in
theorem mjmw42 : Jvm.Cond.code mjmM42.1 mjmM42.2.1 mjmM42.2.2.1 mjmM42.2.2.2.1 ∈ mj_WS := mj_mem 1302 rfl rfl
set_option maxRecDepth 20000 in
theorem mjmw43 : Jvm.Cond.code mjmM43.1 mjmM43.2.1 mjmM43.2.2.1 mjmM43.2.2.2.1 ∈ mj_WS := mj_mem 1338 rfl rfl
set_option maxRecDepth 20000 in
theorem mjmw44 : Jvm.Cond.code mjmM44.1 mjmM44.2.1 mjmM44.2.2.1 mjmM44.2.2.2.1 ∈ mj_WS := mj_mem 1306 rfl rfl
set_option maxRecDepth 20000 in
theorem mjmw45 : Jvm.Cond.code mjmM45.1 mjmM45.2.1 mjmM45.2.2.1 mjmM45.2.2.2.1 ∈ mj_WS := mj_mem 1294 rfl rfl
set_option maxRecDepth 20000 in
theorem mjmw46 : Jvm.Cond.code mjmM46.1 mjmM46.2.1 mjmM46.2.2.1 mjmM46.2.2.2.1 ∈ mj_WS := mj_mem 1286 rfl rfl
set_option maxRecDepth 20000 in
theorem mjmw47 : Jvm.Cond.code mjmM47.1 mjmM47.2.1 mjmM47.2.2.1 mjmM47.2.2.2.1 ∈ mj_WS := mj_mem 1334 rfl rfl
set_option maxRecDepth 20000 in
theorem mjmw48 : Jvm.Cond.code mjmM48.1 mjmM48.2.1 mjmM48.2.2.1 mjmM48.2.2.2.1 ∈ mj_WS := mj_mem 1310 rfl rfl
set_option maxRecDepth 20000 in
theorem mjmw49 : Jvm.Cond.code mjmM49.1 mjmM49.2.1 mjmM49.2.2.1 mjmM49.2.2.2.1 ∈ mj_WS := mj_mem 1314 rfl rfl
set_option maxRecDepth 20000 in
theorem mjmw50 : Jvm.Cond.code mjmM50.1 mjmM50.2.1 mjmM50.2.2.1 mjmM50.2.2.2.1 ∈ mj_WS := mj_mem 1318 rfl rfl
set_option maxRecDepth 20000 in
theorem mjmw51 : Jvm.Cond.code mjmM51.1 mjmM51.2.1 mjmM51.2.2.1 mjmM51.2.2.2.1 ∈ mj_WS := mj_mem 1326 rfl rfl
set_option maxRecDepth 20000 in
theorem mjmw52 : Jvm.Cond.code mjmM52.1 mjmM52.2.1 mjmM52.2.2.1 mjmM52.2.2.2.1 ∈ mj_WS := mj_mem 1330 rfl rfl
set_option maxRecDepth 20000 in
theorem mjmw53 : Jvm.Cond.code mjmM53.1 mjmM53.2.1 mjmM53.2.2.1 mjmM53.2.2.2.1 ∈ mj_WS := mj_mem 1323 rfl rfl
set_option maxRecDepth 20000 in
theorem mjmw54 : Jvm.Cond.code mjmM54.1 mjmM54.2.1 mjmM54.2.2.1 mjmM54.2.2.2.1 ∈ mj_WS := mj_mem 1346 rfl rfl
set_option maxRecDepth 20000 in
theorem mjmw55 : Jvm.Cond.code mjmM55.1 mjmM55.2.1 mjmM55.2.2.1 mjmM55.2.2.2.1 ∈ mj_WS := mj_mem 1358 rfl rfl
set_option maxRecDepth 20000 in
theorem mjmw56 : Jvm.Cond.code mjmM56.1 mjmM56.2.1 mjmM56.2.2.1 mjmM56.2.2.2.1 ∈ mj_WS := mj_mem 1354 rfl rfl
set_option maxRecDepth 20000 in
theorem mjmw57 : Jvm.Cond.code mjmM57.1 mjmM57.2.1 mjmM57.2.2.1 mjmM57.2.2.2.1 ∈ mj_WS := mj_mem 1342 rfl rfl
set_option maxRecDepth 20000 in
theorem mjmw58 : Jvm.Cond.code mjmM58.1 mjmM58.2.1 mjmM58.2.2.1 mjmM58.2.2.2.1 ∈ mj_WS := mj_mem 1350 rfl rfl
set_option maxRecDepth 20000 in
theorem mjmw59 : Jvm.Cond.code mjmM59.1 mjmM59.2.1 mjmM59.2.2.1 mjmM59.2.2.2.1 ∈ mj_WS := mj_mem 1129 rfl rfl
set_option maxRecDepth 20000 in
theorem mjmw60 : Jvm.Cond.code mjmM60.1 mjmM60.2.1 mjmM60.2.2.1 mjmM60.2.2.2.1 ∈ mj_WS := mj_mem 1141 rfl rfl
set_option maxRecDepth 20000 in
theorem mjmw61 : Jvm.Cond.code mjmM61.1 mjmM61.2.1 mjmM61.2.2.1 mjmM61.2.2.2.1 ∈ mj_WS := mj_mem 1362 rfl rfl
set_option maxRecDepth 20000 in
theorem mjmw62 : Jvm.Cond.code mjmM62.1 mjmM62.2.1 mjmM62.2.2.1 mjmM62.2.2.2.1 ∈ mj_WS := mj_mem 1366 rfl rfl
set_option maxRecDepth 20000 in
theorem mjmw63 : Jvm.Cond.code mjmM63.1 mjmM63.2.1 mjmM63.2.2.1 mjmM63.2.2.2.1 ∈ mj_WS := mj_mem 969 rfl rfl
set_option maxRecDepth 100000 in
theorem mjm_ok : ∀ M ∈ mjm_Ms, (plainName M.1.cls = true ∧ ∀ (pc : Nat) (o : mj_O), M.2.2.2.2[pc]? = some o → mj_is mj_kl M.1.cls mj_WS mj_NWs mjm_Ms M.2.1 pc o) ∧ Jvm.Cond.code M.1 M.2.1 M.2.2.1 M.2.2.2.1 ∈ mj_WS := by
  unfold mjm_Ms
  refine List.forall_mem_cons.mpr ⟨⟨⟨by decide, mjmi0⟩, mjmw0⟩, ?_⟩
  refine List.forall_mem_cons.mpr ⟨⟨⟨by decide, mjmi1⟩, mjmw1⟩, ?_⟩
  refine List.forall_mem_cons.mpr ⟨⟨⟨by decide, mjmi2⟩, mjmw2⟩, ?_⟩
  refine List.forall_mem_cons.mpr ⟨⟨⟨by decide, mjmi3⟩, mjmw3⟩, ?_⟩
  refine List.forall_mem_cons.mpr ⟨⟨⟨by decide, mjmi4⟩, mjmw4⟩, ?_⟩
  refine List.forall_mem_cons.mpr ⟨⟨⟨by decide, mjmi5⟩, mjmw5⟩, ?_⟩
  refine List.forall_mem_cons.mpr ⟨⟨⟨by decide, mjmi6⟩, mjmw6⟩, ?_⟩
  refine List.forall_mem_cons.mpr ⟨⟨⟨by decide, mjmi7⟩, mjmw7⟩, ?_⟩
  refine List.forall_mem_cons.mpr ⟨⟨⟨by decide, mjmi8⟩, mjmw8⟩, ?_⟩
  refine List.forall_mem_cons.mpr ⟨⟨⟨by decide, mjmi9⟩, mjmw9⟩, ?_⟩
  refine List.forall_mem_cons.mpr ⟨⟨⟨by decide, mjmi10⟩, mjmw10⟩, ?_⟩
  refine List.forall_mem_cons.mpr ⟨⟨⟨by decide, mjmi11⟩, mjmw11⟩, ?_⟩
  refine List.forall_mem_cons.mpr ⟨⟨⟨by decide, mjmi12⟩, mjmw12⟩, ?_⟩
  refine List.forall_mem_cons.mpr ⟨⟨⟨by decide, mjmi13⟩, mjmw13⟩, ?_⟩
  refine List.forall_mem_cons.mpr ⟨⟨⟨by decide, mjmi14⟩, mjmw14⟩, ?_⟩
  refine List.forall_mem_cons.mpr ⟨⟨⟨by decide, mjmi15⟩, mjmw15⟩, ?_⟩
  refine List.forall_mem_cons.mpr ⟨⟨⟨by decide, mjmi16⟩, mjmw16⟩, ?_⟩
  refine List.forall_mem_cons.mpr ⟨⟨⟨by decide, mjmi17⟩, mjmw17⟩, ?_⟩
  refine List.forall_mem_cons.mpr ⟨⟨⟨by decide, mjmi18⟩, mjmw18⟩, ?_⟩
  refine List.forall_mem_cons.mpr ⟨⟨⟨by decide, mjmi19⟩, mjmw19⟩, ?_⟩
  refine List.forall_mem_cons.mpr ⟨⟨⟨by decide, mjmi20⟩, mjmw20⟩, ?_⟩
  refine List.forall_mem_cons.mpr ⟨⟨⟨by decide, mjmi21⟩, mjmw21⟩, ?_⟩
  refine List.forall_mem_cons.mpr ⟨⟨⟨by decide, mjmi22⟩, mjmw22⟩, ?_⟩
  refine List.forall_mem_cons.mpr ⟨⟨⟨by decide, mjmi23⟩, mjmw23⟩, ?_⟩
  refine List.forall_mem_cons.mpr ⟨⟨⟨by decide, mjmi24⟩, mjmw24⟩, ?_⟩
  refine List.forall_mem_cons.mpr ⟨⟨⟨by decide, mjmi25⟩, mjmw25⟩, ?_⟩
  refine List.forall_mem_cons.mpr ⟨⟨⟨by decide, mjmi26⟩, mjmw26⟩, ?_⟩
  refine List.forall_mem_cons.mpr ⟨⟨⟨by decide, mjmi27⟩, mjmw27⟩, ?_⟩
  refine List.forall_mem_cons.mpr ⟨⟨⟨by decide, mjmi28⟩, mjmw28⟩, ?_⟩
  refine List.forall_mem_cons.mpr ⟨⟨⟨by decide, mjmi29⟩, mjmw29⟩, ?_⟩
  refine List.forall_mem_cons.mpr ⟨⟨⟨by decide, mjmi30⟩, mjmw30⟩, ?_⟩
  refine List.forall_mem_cons.mpr ⟨⟨⟨by decide, mjmi31⟩, mjmw31⟩, ?_⟩
  refine List.forall_mem_cons.mpr ⟨⟨⟨by decide, mjmi32⟩, mjmw32⟩, ?_⟩
  refine List.forall_mem_cons.mpr ⟨⟨⟨by decide, mjmi33⟩, mjmw33⟩, ?_⟩
  refine List.forall_mem_cons.mpr ⟨⟨⟨by decide, mjmi34⟩, mjmw34⟩, ?_⟩
  refine List.forall_mem_cons.mpr ⟨⟨⟨by decide, mjmi35⟩, mjmw35⟩, ?_⟩
  refine List.forall_mem_cons.mpr ⟨⟨⟨by decide, mjmi36⟩, mjmw36⟩, ?_⟩
  refine List.forall_mem_cons.mpr ⟨⟨⟨by decide, mjmi37⟩, mjmw37⟩, ?_⟩
  refine List.forall_mem_cons.mpr ⟨⟨⟨by decide, mjmi38⟩, mjmw38⟩, ?_⟩
  refine List.forall_mem_cons.mpr ⟨⟨⟨by decide, mjmi39⟩, mjmw39⟩, ?_⟩
  refine List.forall_mem_cons.mpr ⟨⟨⟨by decide, mjmi40⟩, mjmw40⟩, ?_⟩
  refine List.forall_mem_cons.mpr ⟨⟨⟨by decide, mjmi41⟩, mjmw41⟩, ?_⟩
  refine List.forall_mem_cons.mpr ⟨⟨⟨by decide, mjmi42⟩, mjmw42⟩, ?_⟩
  refine List.forall_mem_cons.mpr ⟨⟨⟨by decide, mjmi43⟩, mjmw43⟩, ?_⟩
  refine List.forall_mem_cons.mpr ⟨⟨⟨by decide, mjmi44⟩, mjmw44⟩, ?_⟩
  refine List.forall_mem_cons.mpr ⟨⟨⟨by decide, mjmi45⟩, mjmw45⟩, ?_⟩
  refine List.forall_mem_cons.mpr ⟨⟨⟨by decide, mjmi46⟩, mjmw46⟩, ?_⟩
  refine List.forall_mem_cons.mpr ⟨⟨⟨by decide, mjmi47⟩, mjmw47⟩, ?_⟩
  refine List.forall_mem_cons.mpr ⟨⟨⟨by decide, mjmi48⟩, mjmw48⟩, ?_⟩
  refine List.forall_mem_cons.mpr ⟨⟨⟨by decide, mjmi49⟩, mjmw49⟩, ?_⟩
  refine List.forall_mem_cons.mpr ⟨⟨⟨by decide, mjmi50⟩, mjmw50⟩, ?_⟩
  refine List.forall_mem_cons.mpr ⟨⟨⟨by decide, mjmi51⟩, mjmw51⟩, ?_⟩
  refine List.forall_mem_cons.mpr ⟨⟨⟨by decide, mjmi52⟩, mjmw52⟩, ?_⟩
  refine List.forall_mem_cons.mpr ⟨⟨⟨by decide, mjmi53⟩, mjmw53⟩, ?_⟩
  refine List.forall_mem_cons.mpr ⟨⟨⟨by decide, mjmi54⟩, mjmw54⟩, ?_⟩
  refine List.forall_mem_cons.mpr ⟨⟨⟨by decide, mjmi55⟩, mjmw55⟩, ?_⟩
  refine List.forall_mem_cons.mpr ⟨⟨⟨by decide, mjmi56⟩, mjmw56⟩, ?_⟩
  refine List.forall_mem_cons.mpr ⟨⟨⟨by decide, mjmi57⟩, mjmw57⟩, ?_⟩
  refine List.forall_mem_cons.mpr ⟨⟨⟨by decide, mjmi58⟩, mjmw58⟩, ?_⟩
  refine List.forall_mem_cons.mpr ⟨⟨⟨by decide, mjmi59⟩, mjmw59⟩, ?_⟩
  refine List.forall_mem_cons.mpr ⟨⟨⟨by decide, mjmi60⟩, mjmw60⟩, ?_⟩
  refine List.forall_mem_cons.mpr ⟨⟨⟨by decide, mjmi61⟩, mjmw61⟩, ?_⟩
  refine List.forall_mem_cons.mpr ⟨⟨⟨by decide, mjmi62⟩, mjmw62⟩, ?_⟩
  refine List.forall_mem_cons.mpr ⟨⟨⟨by decide, mjmi63⟩, mjmw63⟩, ?_⟩
  intro M hM
  cases hM
theorem mjm_G : ∀ (k : Nat) (M : mj_M), mjm_Ms[k]? = some M → GoodIn mj_WS (Jvm.Cond.code M.1 M.2.1 M.2.2.1 M.2.2.2.1 :: mj_WS) := by
  intro k M hM w hw
  have hin : w ∈ mj_WS := (List.mem_cons.mp hw).elim (fun e => by rw [e]; exact (mjm_ok M (List.mem_of_getElem? hM)).2) (fun e => e)
  exact ⟨hin, good_of_word (List.mem_filter.mp hin).2⟩
theorem mjm_met {l : Launch} {D : va_G} {cA : FieldType → ClassId} {ad : Nat → Nat} (hD : mj_D ad mjm_L) (d k : Nat) (as : List mj_V) (σ : mj_S) (Q : mj_Q) (h : mj_B mjm_L mjm_Ms d k as σ Q) (h1 : mj_okS σ) (h2 : mj_okT as) (M : mj_M) (hM : mjm_Ms[k]? = some M) : Met l M.1 (Jvm.Cond.code M.1 M.2.1 M.2.2.1 M.2.2.2.1 :: mj_WS) (mj_rm d) (mj_Pc D mj_kl cA ad mjm_L mj_NWs as σ) (mj_Qc D mj_kl cA ad mjm_L (mj_A ad mjm_L) Q) 0 0 (mj_A ad mjm_L) :=
  mj_met (fun k M hM => (mjm_ok M (List.mem_of_getElem? hM)).1) mjm_G hD mj_NWs_ok d k as σ Q h h1 h2 M hM
set_option maxRecDepth 20000 in
theorem mjsw0 : Jvm.Cond.code mjsM0.1 mjsM0.2.1 mjsM0.2.2.1 mjsM0.2.2.2.1 ∈ mj_WS := mj_mem 85 rfl rfl
set_option maxRecDepth 20000 in
theorem mjsw1 : Jvm.Cond.code mjsM1.1 mjsM1.2.1 mjsM1.2.2.1 mjsM1.2.2.2.1 ∈ mj_WS := mj_mem 89 rfl rfl
set_option maxRecDepth 20000 in
theorem mjsw2 : Jvm.Cond.code mjsM2.1 mjsM2.2.1 mjsM2.2.2.1 mjsM2.2.2.2.1 ∈ mj_WS := mj_mem 94 rfl rfl
set_option maxRecDepth 20000 in
theorem mjsw3 : Jvm.Cond.code mjsM3.1 mjsM3.2.1 mjsM3.2.2.1 mjsM3.2.2.2.1 ∈ mj_WS := mj_mem 34 rfl rfl
set_option maxRecDepth 100000 in
theorem mjs_ok : ∀ M ∈ mjs_Ms, (plainName M.1.cls = true ∧ ∀ (pc : Nat) (o : mj_O), M.2.2.2.2[pc]? = some o → mj_is mj_kl M.1.cls mj_WS mj_NWs mjs_Ms M.2.1 pc o) ∧ Jvm.Cond.code M.1 M.2.1 M.2.2.1 M.2.2.2.1 ∈ mj_WS := by
  unfold mjs_Ms
  refine List.forall_mem_cons.mpr ⟨⟨⟨by decide, mjsi0⟩, mjsw0⟩, ?_⟩
  refine List.forall_mem_cons.mpr ⟨⟨⟨by decide, mjsi1⟩, mjsw1⟩, ?_⟩
  refine List.forall_mem_cons.mpr ⟨⟨⟨by decide, mjsi2⟩, mjsw2⟩, ?_⟩
  refine List.forall_mem_cons.mpr ⟨⟨⟨by decide, mjsi3⟩, mjsw3⟩, ?_⟩
  intro M hM
  cases hM
theorem mjs_G : ∀ (k : Nat) (M : mj_M), mjs_Ms[k]? = some M → GoodIn mj_WS (Jvm.Cond.code M.1 M.2.1 M.2.2.1 M.2.2.2.1 :: mj_WS) := by
  intro k M hM w hw
  have hin : w ∈ mj_WS := (List.mem_cons.mp hw).elim (fun e => by rw [e]; exact (mjs_ok M (List.mem_of_getElem? hM)).2) (fun e => e)
  exact ⟨hin, good_of_word (List.mem_filter.mp hin).2⟩
theorem mjs_met {l : Launch} {D : va_G} {cA : FieldType → ClassId} {ad : Nat → Nat} (hD : mj_D ad mjs_L) (d k : Nat) (as : List mj_V) (σ : mj_S) (Q : mj_Q) (h : mj_B mjs_L mjs_Ms d k as σ Q) (h1 : mj_okS σ) (h2 : mj_okT as) (M : mj_M) (hM : mjs_Ms[k]? = some M) : Met l M.1 (Jvm.Cond.code M.1 M.2.1 M.2.2.1 M.2.2.2.1 :: mj_WS) (mj_rm d) (mj_Pc D mj_kl cA ad mjs_L mj_NWs as σ) (mj_Qc D mj_kl cA ad mjs_L (mj_A ad mjs_L) Q) 0 0 (mj_A ad mjs_L) :=
  mj_met (fun k M hM => (mjs_ok M (List.mem_of_getElem? hM)).1) mjs_G hD mj_NWs_ok d k as σ Q h h1 h2 M hM
set_option maxRecDepth 20000 in
theorem mjpw0 : Jvm.Cond.code mjpM0.1 mjpM0.2.1 mjpM0.2.2.1 mjpM0.2.2.2.1 ∈ mj_WS := mj_mem 121 rfl rfl
set_option maxRecDepth 100000 in
theorem mjp_ok : ∀ M ∈ mjp_Ms, (plainName M.1.cls = true ∧ ∀ (pc : Nat) (o : mj_O), M.2.2.2.2[pc]? = some o → mj_is mj_kl M.1.cls mj_WS mj_NWs mjp_Ms M.2.1 pc o) ∧ Jvm.Cond.code M.1 M.2.1 M.2.2.1 M.2.2.2.1 ∈ mj_WS := by
  unfold mjp_Ms
  refine List.forall_mem_cons.mpr ⟨⟨⟨by decide, mjpi0⟩, mjpw0⟩, ?_⟩
  intro M hM
  cases hM
theorem mjp_G : ∀ (k : Nat) (M : mj_M), mjp_Ms[k]? = some M → GoodIn mj_WS (Jvm.Cond.code M.1 M.2.1 M.2.2.1 M.2.2.2.1 :: mj_WS) := by
  intro k M hM w hw
  have hin : w ∈ mj_WS := (List.mem_cons.mp hw).elim (fun e => by rw [e]; exact (mjp_ok M (List.mem_of_getElem? hM)).2) (fun e => e)
  exact ⟨hin, good_of_word (List.mem_filter.mp hin).2⟩
theorem mjp_met {l : Launch} {D : va_G} {cA : FieldType → ClassId} {ad : Nat → Nat} (hD : mj_D ad mjp_L) (d k : Nat) (as : List mj_V) (σ : mj_S) (Q : mj_Q) (h : mj_B mjp_L mjp_Ms d k as σ Q) (h1 : mj_okS σ) (h2 : mj_okT as) (M : mj_M) (hM : mjp_Ms[k]? = some M) : Met l M.1 (Jvm.Cond.code M.1 M.2.1 M.2.2.1 M.2.2.2.1 :: mj_WS) (mj_rm d) (mj_Pc D mj_kl cA ad mjp_L mj_NWs as σ) (mj_Qc D mj_kl cA ad mjp_L (mj_A ad mjp_L) Q) 0 0 (mj_A ad mjp_L) :=
  mj_met (fun k M hM => (mjp_ok M (List.mem_of_getElem? hM)).1) mjp_G hD mj_NWs_ok d k as σ Q h h1 h2 M hM
